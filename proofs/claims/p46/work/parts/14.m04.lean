theorem dX4_likely_0 : decode cX4_likely 0 = .ok (.aload_n 0, 1) := by decide +kernel
theorem dX4_likely_1 : decode cX4_likely 1 = .ok (.iload_n 1, 1) := by decide +kernel
theorem dX4_likely_2 : decode cX4_likely 2 = .ok (.invokevirtual 115, 3) := by decide +kernel
theorem dX4_likely_5 : decode cX4_likely 5 = .ok (.astore_n 3, 1) := by decide +kernel
theorem dX4_likely_6 : decode cX4_likely 6 = .ok (.aload_n 3, 1) := by decide +kernel
theorem dX4_likely_7 : decode cX4_likely 7 = .ok (.iload_n 2, 1) := by decide +kernel
theorem dX4_likely_8 : decode cX4_likely 8 = .ok (.invokestatic 213, 3) := by decide +kernel
theorem dX4_likely_11 : decode cX4_likely 11 = .ok (.astore 4, 2) := by decide +kernel
theorem dX4_likely_13 : decode cX4_likely 13 = .ok (.iconst 0, 1) := by decide +kernel
theorem dX4_likely_14 : decode cX4_likely 14 = .ok (.istore 5, 2) := by decide +kernel
theorem dX4_likely_16 : decode cX4_likely 16 = .ok (.bipush 7, 2) := by decide +kernel
theorem dX4_likely_18 : decode cX4_likely 18 = .ok (.istore 6, 2) := by decide +kernel
theorem dX4_likely_20 : decode cX4_likely 20 = .ok (.iconst 0, 1) := by decide +kernel
theorem dX4_likely_21 : decode cX4_likely 21 = .ok (.istore 7, 2) := by decide +kernel
theorem dX4_likely_23 : decode cX4_likely 23 = .ok (.iload 7, 2) := by decide +kernel
theorem dX4_likely_25 : decode cX4_likely 25 = .ok (.aload_n 0, 1) := by decide +kernel
theorem dX4_likely_26 : decode cX4_likely 26 = .ok (.getfield 12, 3) := by decide +kernel
theorem dX4_likely_29 : decode cX4_likely 29 = .ok (.getfield 66, 3) := by decide +kernel
theorem dX4_likely_32 : decode cX4_likely 32 = .ok (.if_icmp .ge 48, 3) := by decide +kernel
theorem dX4_likely_35 : decode cX4_likely 35 = .ok (.aload 4, 2) := by decide +kernel
theorem dX4_likely_37 : decode cX4_likely 37 = .ok (.aload_n 3, 1) := by decide +kernel
theorem dX4_likely_38 : decode cX4_likely 38 = .ok (.getfield 119, 3) := by decide +kernel
theorem dX4_likely_41 : decode cX4_likely 41 = .ok (.aload_n 0, 1) := by decide +kernel
theorem dX4_likely_42 : decode cX4_likely 42 = .ok (.getfield 12, 3) := by decide +kernel
theorem dX4_likely_45 : decode cX4_likely 45 = .ok (.getfield 235, 3) := by decide +kernel
theorem dX4_likely_48 : decode cX4_likely 48 = .ok (.iload 7, 2) := by decide +kernel
theorem dX4_likely_50 : decode cX4_likely 50 = .ok (.aaload, 1) := by decide +kernel
theorem dX4_likely_51 : decode cX4_likely 51 = .ok (.getfield 119, 3) := by decide +kernel
theorem dX4_likely_54 : decode cX4_likely 54 = .ok (.invokevirtual 239, 3) := by decide +kernel
theorem dX4_likely_57 : decode cX4_likely 57 = .ok (.istore 8, 2) := by decide +kernel
theorem dX4_likely_59 : decode cX4_likely 59 = .ok (.iload 8, 2) := by decide +kernel
theorem dX4_likely_61 : decode cX4_likely 61 = .ok (.iload 6, 2) := by decide +kernel
theorem dX4_likely_63 : decode cX4_likely 63 = .ok (.if_icmp .ge 11, 3) := by decide +kernel
theorem dX4_likely_66 : decode cX4_likely 66 = .ok (.iload 8, 2) := by decide +kernel
theorem dX4_likely_68 : decode cX4_likely 68 = .ok (.istore 6, 2) := by decide +kernel
theorem dX4_likely_70 : decode cX4_likely 70 = .ok (.iload 7, 2) := by decide +kernel
theorem dX4_likely_72 : decode cX4_likely 72 = .ok (.istore 5, 2) := by decide +kernel
theorem dX4_likely_74 : decode cX4_likely 74 = .ok (.iinc 7 1, 3) := by decide +kernel
theorem dX4_likely_77 : decode cX4_likely 77 = .ok (.goto (-54), 3) := by decide +kernel
theorem dX4_likely_80 : decode cX4_likely 80 = .ok (.iload 5, 2) := by decide +kernel
theorem dX4_likely_82 : decode cX4_likely 82 = .ok (.ireturn, 1) := by decide +kernel
theorem h9_X4_likely : yX4_likely.cls ≠ "java/lang/invoke/MethodHandle" ∧ yX4_likely.cls ≠ "java/lang/invoke/VarHandle" ∧ (parseMethodDescriptor yX4_likely.desc).map (fun d => d.parameters.length) = some 2 := by decide +kernel
noncomputable def F_X4_likely (a0 : Nat) (x1 : Int32) (x2 : Int32) (w : FW) : Option (Int32 ⊕ Nat) :=
  fg (w.1 a0 = 5) inferInstance ((F_X4_existing a0 x1 w).bind (fun r1 => fse r1 (fun v5 => (F_X4_punchedHalf v5 x2 w).bind (fun r8 => fse r8 (fun v11 => (fLoop (σ := Int32 × Int32 × Int32) (ρ := Int32) (fun s14 => fg (w.1 (gR w 400 a0 0) = 2) inferInstance ((if (gI w 101 (gR w 400 a0 0) 0) ≤ s14.2.2 then some (.inr s14.1) else fg (w.1 v5 = 3) inferInstance (fg (w.1 (gR w 100 (gR w 400 a0 0) 0) = 14) inferInstance (fg (¬ (s14.2.2 < 0 ∨ w.2.1 (gR w 100 (gR w 400 a0 0) 0) ≤ Int32.toNatClampNeg s14.2.2)) inferInstance (fg (w.1 (gR w 604 (gR w 100 (gR w 400 a0 0) 0) (Int32.toNatClampNeg s14.2.2)) = 3) inferInstance (fg (w.1 v11 = 1) inferInstance ((F_X0_unlikeLetters v11 (gR w 200 v5 0) (gR w 200 (gR w 604 (gR w 100 (gR w 400 a0 0) 0) (Int32.toNatClampNeg s14.2.2)) 0) w).bind (fun r29 => (if s14.2.1 ≤ r29 then some (.inl (s14.1, s14.2.1, (s14.2.2 + 1))) else some (.inl (s14.2.2, r29, (s14.2.2 + 1))))))))))))) (0, 7, 0)).bind (fun x20 => some (.inl x20))) (fun x12 => some (.inr x12)))) (fun x6 => some (.inr x6))))
set_option maxHeartbeats 4000000 in
set_option maxRecDepth 100000 in
theorem c_X4_likely (l : Launch) (D : va_G) (cy : Nat → ClassId) (a0 : Nat) (x1 : Int32) (x2 : Int32) (w : FW) (r : Int32 ⊕ Nat) (hF : F_X4_likely a0 x1 x2 w = some r) : fSpecX l D cy yX4_likely cX4_likely 9 (some .int) { frames := 7, cells := 2, slots := 12, locals := 156 } [.ref a0, .int x1, .int x2] w w (fOI r) := by
  refine f_beginX (by decide +kernel) (Nat.le_of_ble_eq_true rfl) (fun X hC hEn => ?_)
  have hst := f_st hC hEn
  unfold F_X4_likely at hF
  show fAt X 0 0 9 w [(0, .ref a0), (1, .int x1), (2, .int x2)] [] 0
  refine f_aload_n hC dX4_likely_0 rfl 0 rfl ?_
  refine f_iload_n hC dX4_likely_1 rfl 1 rfl ?_
  obtain ⟨g3, hF⟩ := fg_open hF
  obtain ⟨r1, h2, hF⟩ := fb_open hF
  rcases r1 with v5 | x6
  · refine f_callVR hC [.int x1] hst (c_X4_existing l D cy a0 x1 w (.inl v5) h2) q_404 q_73 q_401 q_403 q_1 h9_X4_existing rfl (fSm.k (fSm.rf w) g3) ⟨Nat.le_of_ble_eq_true rfl, Nat.le_of_ble_eq_true rfl⟩ ⟨Nat.le_of_ble_eq_true rfl, Nat.le_of_ble_eq_true rfl⟩ (Nat.le_of_ble_eq_true rfl) rfl dX4_likely_2 (fun e4 => ?_)
    refine f_astore_n (L' := [(3, .ref v5), (0, .ref a0), (1, .int x1), (2, .int x2)]) hC dX4_likely_5 rfl (by decide) rfl ?_
    refine f_aload_n hC dX4_likely_6 rfl 0 rfl ?_
    refine f_iload_n hC dX4_likely_7 rfl 3 rfl ?_
    obtain ⟨r8, h9, hF⟩ := fb_open hF
    rcases r8 with v11 | x12
    · refine f_callSR hC [.ref v5, .int x2] hst (c_X4_punchedHalf l D cy v5 x2 w (.inl v11) h9) q_524 q_73 q_522 q_523 h9_X4_punchedHalf ⟨Nat.le_of_ble_eq_true rfl, Nat.le_of_ble_eq_true rfl⟩ ⟨Nat.le_of_ble_eq_true rfl, Nat.le_of_ble_eq_true rfl⟩ (Nat.le_of_ble_eq_true rfl) rfl dX4_likely_8 (fun e10 => ?_)
      refine f_astore (L' := [(4, .ref v11), (3, .ref v5), (0, .ref a0), (1, .int x1), (2, .int x2)]) hC dX4_likely_11 (by decide) rfl ?_
      refine f_iconst (v := 0) hC dX4_likely_13 (by decide) ?_
      refine f_istore (L' := [(5, .int 0), (4, .ref v11), (3, .ref v5), (0, .ref a0), (1, .int x1), (2, .int x2)]) hC dX4_likely_14 (by decide) rfl ?_
      refine f_bipush (v := 7) hC dX4_likely_16 (by decide) ?_
      refine f_istore (L' := [(6, .int 7), (5, .int 0), (4, .ref v11), (3, .ref v5), (0, .ref a0), (1, .int x1), (2, .int x2)]) hC dX4_likely_18 (by decide) rfl ?_
      refine f_iconst (v := 0) hC dX4_likely_20 (by decide) ?_
      refine f_istore (L' := [(7, .int 0), (6, .int 7), (5, .int 0), (4, .ref v11), (3, .ref v5), (0, .ref a0), (1, .int x1), (2, .int x2)]) hC dX4_likely_21 (by decide) rfl ?_
      obtain ⟨x20, h21, hF⟩ := fb_open hF
      have K22 : fAt X 2 12 9 w [(5, .int x20)] [] 80 := by
        refine f_iload hC dX4_likely_80 0 rfl ?_
        obtain rfl := Option.some.inj hF
        exact f_iretX hC hEn (fSm.rf w) dX4_likely_82
      refine f_sub (L' := [(0, .ref a0), (3, .ref v5), (4, .ref v11), (5, .int 0), (6, .int 7), (7, .int 0)]) [5, 4, 3, 2, 1, 0] rfl ?_
      refine fLoop_ind (fun (s14 : Int32 × Int32 × Int32) => fAt X 2 12 9 w [(0, .ref a0), (3, .ref v5), (4, .ref v11), (5, .int s14.1), (6, .int s14.2.1), (7, .int s14.2.2)] [] 23) (fun s14 y19 h15 go16 ou17 => ?_) h21
      refine f_iload hC dX4_likely_23 5 rfl ?_
      refine f_aload_n hC dX4_likely_25 rfl 0 rfl ?_
      refine f_getR hC 4 0 400 rfl (by decide) iX4 q_260 rfl rfl (fSm.k (fSm.rf w) g3) dX4_likely_26 ?_
      obtain ⟨g23, h15⟩ := fg_open h15
      refine f_getIN hC 1 1 101 rfl (by decide) iX1 q_219 rfl rfl (fSm.k (fSm.rf w) g23) dX4_likely_29 ?_
      refine f_icmp_ge hC 80 dX4_likely_32 (by decide) (fun c24 => ?_) (fun c24 => ?_)
      · replace h15 := fi_pos h15 c24
        obtain rfl := Option.some.inj h15
        obtain rfl := ou17 _ rfl
        refine f_sub (L' := [(5, .int s14.1)]) [3] rfl ?_
        exact K22
      · replace h15 := fi_neg h15 c24
        refine f_aload hC dX4_likely_35 2 rfl ?_
        refine f_aload_n hC dX4_likely_37 rfl 1 rfl ?_
        obtain ⟨g25, h15⟩ := fg_open h15
        refine f_getRN hC 2 0 200 rfl (by decide) iX2 q_176 rfl rfl (fSm.k (fSm.rf w) g25) dX4_likely_38 ?_
        refine f_aload_n hC dX4_likely_41 rfl 0 rfl ?_
        refine f_getR hC 4 0 400 rfl (by decide) iX4 q_260 rfl rfl (fSm.k (fSm.rf w) g3) dX4_likely_42 ?_
        refine f_getRN hC 1 0 100 rfl (by decide) iX1 q_217 rfl rfl (fSm.k (fSm.rf w) g23) dX4_likely_45 ?_
        refine f_iload hC dX4_likely_48 5 rfl ?_
        obtain ⟨g26, h15⟩ := fg_open h15
        obtain ⟨g27, h15⟩ := fg_open h15
        refine f_aald1 hC (fSm.k (fSm.rf w) g26) (fSm.v (fSm.rf w) g27) dX4_likely_50 ?_
        obtain ⟨g28, h15⟩ := fg_open h15
        refine f_getRN hC 2 0 200 rfl (by decide) iX2 q_176 rfl rfl (fSm.k (fSm.rf w) g28) dX4_likely_51 ?_
        obtain ⟨g31, h15⟩ := fg_open h15
        obtain ⟨r29, h30, h15⟩ := fb_open h15
        refine f_callVN hC [.ref (gR w 200 v5 0), .ref (gR w 200 (gR w 604 (gR w 100 (gR w 400 a0 0) 0) (Int32.toNatClampNeg s14.2.2)) 0)] (c_X0_unlikeLetters l D cy v11 (gR w 200 v5 0) (gR w 200 (gR w 604 (gR w 100 (gR w 400 a0 0) 0) (Int32.toNatClampNeg s14.2.2)) 0) w r29 h30) q_1243 q_77 q_1240 q_1242 q_58 h9_X0_unlikeLetters rfl (fSm.k (fSm.rf w) g31) ⟨Nat.le_of_ble_eq_true rfl, Nat.le_of_ble_eq_true rfl⟩ ⟨Nat.le_of_ble_eq_true rfl, Nat.le_of_ble_eq_true rfl⟩ (Nat.le_of_ble_eq_true rfl) rfl dX4_likely_54 (fun e32 => ?_)
        refine f_istore (L' := [(8, .int r29), (0, .ref a0), (3, .ref v5), (4, .ref v11), (5, .int s14.1), (6, .int s14.2.1), (7, .int s14.2.2)]) hC dX4_likely_57 (by decide) rfl ?_
        refine f_iload hC dX4_likely_59 0 rfl ?_
        refine f_iload hC dX4_likely_61 5 rfl ?_
        refine f_icmp_ge hC 74 dX4_likely_63 (by decide) (fun c33 => ?_) (fun c33 => ?_)
        · replace h15 := fi_pos h15 c33
          refine f_iinc (L' := [(7, .int (s14.2.2 + 1)), (8, .int r29), (0, .ref a0), (3, .ref v5), (4, .ref v11), (5, .int s14.1), (6, .int s14.2.1)]) hC dX4_likely_74 6 rfl rfl (by decide) rfl ?_
          refine f_goto hC 23 dX4_likely_77 (by decide) ?_
          obtain rfl := Option.some.inj h15
          refine f_sub (L' := [(0, .ref a0), (3, .ref v5), (4, .ref v11), (5, .int s14.1), (6, .int s14.2.1), (7, .int (s14.2.2 + 1))]) [2, 3, 4, 5, 6, 0] rfl ?_
          exact go16 _ rfl
        · replace h15 := fi_neg h15 c33
          refine f_iload hC dX4_likely_66 0 rfl ?_
          refine f_istore (L' := [(6, .int r29), (8, .int r29), (0, .ref a0), (3, .ref v5), (4, .ref v11), (5, .int s14.1), (7, .int s14.2.2)]) hC dX4_likely_68 (by decide) rfl ?_
          refine f_iload hC dX4_likely_70 6 rfl ?_
          refine f_istore (L' := [(5, .int s14.2.2), (6, .int r29), (8, .int r29), (0, .ref a0), (3, .ref v5), (4, .ref v11), (7, .int s14.2.2)]) hC dX4_likely_72 (by decide) rfl ?_
          refine f_iinc (L' := [(7, .int (s14.2.2 + 1)), (5, .int s14.2.2), (6, .int r29), (8, .int r29), (0, .ref a0), (3, .ref v5), (4, .ref v11)]) hC dX4_likely_74 6 rfl rfl (by decide) rfl ?_
          refine f_goto hC 23 dX4_likely_77 (by decide) ?_
          obtain rfl := Option.some.inj h15
          refine f_sub (L' := [(0, .ref a0), (3, .ref v5), (4, .ref v11), (5, .int s14.2.2), (6, .int r29), (7, .int (s14.2.2 + 1))]) [4, 5, 6, 1, 2, 0] rfl ?_
          exact go16 _ rfl
    · obtain rfl := Option.some.inj hF
      exact f_callST hC [.ref v5, .int x2] hEn (fSm.rf w) (Nat.le_of_ble_eq_true rfl) (Nat.le_of_ble_eq_true rfl) (c_X4_punchedHalf l D cy v5 x2 w (.inr x12) h9) q_524 q_73 q_522 q_523 h9_X4_punchedHalf ⟨Nat.le_of_ble_eq_true rfl, Nat.le_of_ble_eq_true rfl⟩ ⟨Nat.le_of_ble_eq_true rfl, Nat.le_of_ble_eq_true rfl⟩ (Nat.le_of_ble_eq_true rfl) rfl dX4_likely_8
  · obtain rfl := Option.some.inj hF
    exact f_callVT hC [.int x1] hEn (fSm.rf w) (Nat.le_of_ble_eq_true rfl) (Nat.le_of_ble_eq_true rfl) (c_X4_existing l D cy a0 x1 w (.inr x6) h2) q_404 q_73 q_401 q_403 q_1 h9_X4_existing rfl (fSm.k (fSm.rf w) g3) ⟨Nat.le_of_ble_eq_true rfl, Nat.le_of_ble_eq_true rfl⟩ ⟨Nat.le_of_ble_eq_true rfl, Nat.le_of_ble_eq_true rfl⟩ (Nat.le_of_ble_eq_true rfl) rfl dX4_likely_2
theorem dX1_isClosed_0 : decode cX1_isClosed 0 = .ok (.iload_n 1, 1) := by decide +kernel
theorem dX1_isClosed_1 : decode cX1_isClosed 1 = .ok (.invokestatic 66, 3) := by decide +kernel
theorem dX1_isClosed_4 : decode cX1_isClosed 4 = .ok (.ifCond .eq 16, 3) := by decide +kernel
theorem dX1_isClosed_7 : decode cX1_isClosed 7 = .ok (.aload_n 0, 1) := by decide +kernel
theorem dX1_isClosed_8 : decode cX1_isClosed 8 = .ok (.getfield 32, 3) := by decide +kernel
theorem dX1_isClosed_11 : decode cX1_isClosed 11 = .ok (.iload_n 1, 1) := by decide +kernel
theorem dX1_isClosed_12 : decode cX1_isClosed 12 = .ok (.baload, 1) := by decide +kernel
theorem dX1_isClosed_13 : decode cX1_isClosed 13 = .ok (.ifCond .ne 7, 3) := by decide +kernel
theorem dX1_isClosed_16 : decode cX1_isClosed 16 = .ok (.iconst 1, 1) := by decide +kernel
theorem dX1_isClosed_17 : decode cX1_isClosed 17 = .ok (.goto 4, 3) := by decide +kernel
theorem dX1_isClosed_20 : decode cX1_isClosed 20 = .ok (.iconst 0, 1) := by decide +kernel
theorem dX1_isClosed_21 : decode cX1_isClosed 21 = .ok (.ireturn, 1) := by decide +kernel
theorem h9_X1_isClosed : yX1_isClosed.cls ≠ "java/lang/invoke/MethodHandle" ∧ yX1_isClosed.cls ≠ "java/lang/invoke/VarHandle" ∧ (parseMethodDescriptor yX1_isClosed.desc).map (fun d => d.parameters.length) = some 1 := by decide +kernel
noncomputable def F_X1_isClosed (a0 : Nat) (x1 : Int32) (w : FW) : Option (Int32) :=
  (F_X4_isPier x1 w).bind (fun r1 => (if r1 = 0 then some 0 else fg (w.1 a0 = 2) inferInstance (fg (w.1 (gR w 104 a0 0) = 12) inferInstance (fg (¬ (x1 < 0 ∨ w.2.1 (gR w 104 a0 0) ≤ Int32.toNatClampNeg x1)) inferInstance ((if (gI w 602 (gR w 104 a0 0) (Int32.toNatClampNeg x1)) = 0 then some 1 else some 0))))))
set_option maxHeartbeats 4000000 in
set_option maxRecDepth 100000 in
theorem c_X1_isClosed (l : Launch) (D : va_G) (cy : Nat → ClassId) (a0 : Nat) (x1 : Int32) (w : FW) (r : Int32) (hF : F_X1_isClosed a0 x1 w = some r) : fSpec l D cy yX1_isClosed cX1_isClosed 2 (some .boolean) { frames := 1, cells := 0, slots := 0, locals := 20 } [.ref a0, .int x1] w w (some (.int r)) := by
  refine f_begin (by decide +kernel) (Nat.le_of_ble_eq_true rfl) (fun X hC hEn => ?_)
  unfold F_X1_isClosed at hF
  show fAt X 0 0 2 w [(0, .ref a0), (1, .int x1)] [] 0
  refine f_iload_n hC dX1_isClosed_0 rfl 1 rfl ?_
  obtain ⟨r1, h2, hF⟩ := fb_open hF
  refine f_callSN hC [.int x1] (c_X4_isPier l D cy x1 w r1 h2) q_566 q_73 q_564 q_565 h9_X4_isPier ⟨Nat.le_of_ble_eq_true rfl, Nat.le_of_ble_eq_true rfl⟩ ⟨Nat.le_of_ble_eq_true rfl, Nat.le_of_ble_eq_true rfl⟩ (Nat.le_of_ble_eq_true rfl) rfl dX1_isClosed_1 (fun e3 => ?_)
  refine f_if_eq hC 20 dX1_isClosed_4 (by decide) (fun c4 => ?_) (fun c4 => ?_)
  · replace hF := fi_pos hF c4
    refine f_iconst (v := 0) hC dX1_isClosed_20 (by decide) ?_
    obtain rfl := Option.some.inj hF
    exact f_zret hC hEn (fSm.rf w) (nar_z (by decide)) dX1_isClosed_21
  · replace hF := fi_neg hF c4
    refine f_aload_n hC dX1_isClosed_7 rfl 0 rfl ?_
    obtain ⟨g5, hF⟩ := fg_open hF
    refine f_getR hC 1 4 104 rfl (by decide) iX1 q_224 rfl rfl (fSm.k (fSm.rf w) g5) dX1_isClosed_8 ?_
    refine f_iload_n hC dX1_isClosed_11 rfl 1 rfl ?_
    obtain ⟨g6, hF⟩ := fg_open hF
    obtain ⟨g7, hF⟩ := fg_open hF
    refine f_zald hC (fSm.k (fSm.rf w) g6) (fSm.v (fSm.rf w) g7) dX1_isClosed_12 ?_
    refine f_if_ne hC 20 dX1_isClosed_13 (by decide) (fun c8 => ?_) (fun c8 => ?_)
    · replace hF := fi_neg hF c8
      refine f_iconst (v := 0) hC dX1_isClosed_20 (by decide) ?_
      obtain rfl := Option.some.inj hF
      exact f_zret hC hEn (fSm.rf w) (nar_z (by decide)) dX1_isClosed_21
    · replace hF := fi_pos hF c8
      refine f_iconst (v := 1) hC dX1_isClosed_16 (by decide) ?_
      refine f_goto hC 21 dX1_isClosed_17 (by decide) ?_
      obtain rfl := Option.some.inj hF
      exact f_zret hC hEn (fSm.rf w) (nar_z (by decide)) dX1_isClosed_21
theorem dX0_firstWrongPlace_0 : decode cX0_firstWrongPlace 0 = .ok (.iconst 0, 1) := by decide +kernel
theorem dX0_firstWrongPlace_1 : decode cX0_firstWrongPlace 1 = .ok (.istore_n 2, 1) := by decide +kernel
theorem dX0_firstWrongPlace_2 : decode cX0_firstWrongPlace 2 = .ok (.iload_n 2, 1) := by decide +kernel
theorem dX0_firstWrongPlace_3 : decode cX0_firstWrongPlace 3 = .ok (.aload_n 1, 1) := by decide +kernel
theorem dX0_firstWrongPlace_4 : decode cX0_firstWrongPlace 4 = .ok (.getfield 34, 3) := by decide +kernel
theorem dX0_firstWrongPlace_7 : decode cX0_firstWrongPlace 7 = .ok (.if_icmp .ge 34, 3) := by decide +kernel
theorem dX0_firstWrongPlace_10 : decode cX0_firstWrongPlace 10 = .ok (.aload_n 1, 1) := by decide +kernel
theorem dX0_firstWrongPlace_11 : decode cX0_firstWrongPlace 11 = .ok (.iload_n 2, 1) := by decide +kernel
theorem dX0_firstWrongPlace_12 : decode cX0_firstWrongPlace 12 = .ok (.invokevirtual 39, 3) := by decide +kernel
theorem dX0_firstWrongPlace_15 : decode cX0_firstWrongPlace 15 = .ok (.istore_n 3, 1) := by decide +kernel
theorem dX0_firstWrongPlace_16 : decode cX0_firstWrongPlace 16 = .ok (.aload_n 0, 1) := by decide +kernel
theorem dX0_firstWrongPlace_17 : decode cX0_firstWrongPlace 17 = .ok (.iload_n 3, 1) := by decide +kernel
theorem dX0_firstWrongPlace_18 : decode cX0_firstWrongPlace 18 = .ok (.aload_n 0, 1) := by decide +kernel
theorem dX0_firstWrongPlace_19 : decode cX0_firstWrongPlace 19 = .ok (.getfield 15, 3) := by decide +kernel
theorem dX0_firstWrongPlace_22 : decode cX0_firstWrongPlace 22 = .ok (.aload_n 0, 1) := by decide +kernel
theorem dX0_firstWrongPlace_23 : decode cX0_firstWrongPlace 23 = .ok (.getfield 19, 3) := by decide +kernel
theorem dX0_firstWrongPlace_26 : decode cX0_firstWrongPlace 26 = .ok (.invokevirtual 60, 3) := by decide +kernel
theorem dX0_firstWrongPlace_29 : decode cX0_firstWrongPlace 29 = .ok (.iload_n 3, 1) := by decide +kernel
theorem dX0_firstWrongPlace_30 : decode cX0_firstWrongPlace 30 = .ok (.if_icmp .eq 5, 3) := by decide +kernel
theorem dX0_firstWrongPlace_33 : decode cX0_firstWrongPlace 33 = .ok (.iload_n 2, 1) := by decide +kernel
theorem dX0_firstWrongPlace_34 : decode cX0_firstWrongPlace 34 = .ok (.ireturn, 1) := by decide +kernel
theorem dX0_firstWrongPlace_35 : decode cX0_firstWrongPlace 35 = .ok (.iinc 2 1, 3) := by decide +kernel
theorem dX0_firstWrongPlace_38 : decode cX0_firstWrongPlace 38 = .ok (.goto (-36), 3) := by decide +kernel
theorem dX0_firstWrongPlace_41 : decode cX0_firstWrongPlace 41 = .ok (.iconst (-1), 1) := by decide +kernel
theorem dX0_firstWrongPlace_42 : decode cX0_firstWrongPlace 42 = .ok (.ireturn, 1) := by decide +kernel
theorem h9_X0_firstWrongPlace : yX0_firstWrongPlace.cls ≠ "java/lang/invoke/MethodHandle" ∧ yX0_firstWrongPlace.cls ≠ "java/lang/invoke/VarHandle" ∧ (parseMethodDescriptor yX0_firstWrongPlace.desc).map (fun d => d.parameters.length) = some 1 := by decide +kernel
noncomputable def F_X0_firstWrongPlace (a0 : Nat) (a1 : Nat) (w : FW) : Option (Int32) :=
  (fLoop (σ := Int32) (ρ := (Unit) ⊕ (Int32)) (fun s1 => fg (w.1 a1 = 4) inferInstance ((if (gI w 301 a1 0) ≤ s1 then some (.inr (.inl ())) else (F_X3_letterAt a1 s1 w).bind (fun r12 => fg (w.1 a0 = 1) inferInstance ((F_X0_seenAs a0 r12 (gI w 1 a0 0) (gI w 2 a0 0) w).bind (fun r16 => (if r16 = r12 then some (.inl (s1 + 1)) else some (.inr (.inr s1))))))))) 0).bind (fun x7 => fse x7 (fun z20 => some (-1)) (fun q9 => some q9))
set_option maxHeartbeats 4000000 in
set_option maxRecDepth 100000 in
theorem c_X0_firstWrongPlace (l : Launch) (D : va_G) (cy : Nat → ClassId) (a0 : Nat) (a1 : Nat) (w : FW) (r : Int32) (hF : F_X0_firstWrongPlace a0 a1 w = some r) : fSpec l D cy yX0_firstWrongPlace cX0_firstWrongPlace 4 (some .int) { frames := 5, cells := 0, slots := 0, locals := 110 } [.ref a0, .ref a1] w w (some (.int r)) := by
  refine f_begin (by decide +kernel) (Nat.le_of_ble_eq_true rfl) (fun X hC hEn => ?_)
  unfold F_X0_firstWrongPlace at hF
  show fAt X 0 0 4 w [(0, .ref a0), (1, .ref a1)] [] 0
  refine f_iconst (v := 0) hC dX0_firstWrongPlace_0 (by decide) ?_
  refine f_istore_n (L' := [(2, .int 0), (0, .ref a0), (1, .ref a1)]) hC dX0_firstWrongPlace_1 rfl (by decide) rfl ?_
  obtain ⟨x7, h8, hF⟩ := fb_open hF
  have K9 : ∀ z20, x7 = .inl z20 → fAt X 0 0 4 w [] [] 41 := by
    intro z20 hz9
    subst hz9
    refine f_iconst (v := (-1)) hC dX0_firstWrongPlace_41 (by decide) ?_
    obtain rfl := Option.some.inj hF
    exact f_iret hC hEn (fSm.rf w) dX0_firstWrongPlace_42
  refine f_sub (L' := [(0, .ref a0), (1, .ref a1), (2, .int 0)]) [1, 2, 0] rfl ?_
  refine fLoop_ind (fun (s1 : Int32) => fAt X 0 0 4 w [(0, .ref a0), (1, .ref a1), (2, .int s1)] [] 2) (fun s1 y6 h2 go3 ou4 => ?_) h8
  refine f_iload_n hC dX0_firstWrongPlace_2 rfl 2 rfl ?_
  refine f_aload_n hC dX0_firstWrongPlace_3 rfl 1 rfl ?_
  obtain ⟨g10, h2⟩ := fg_open h2
  refine f_getIN hC 3 1 301 rfl (by decide) iX3 q_125 rfl rfl (fSm.k (fSm.rf w) g10) dX0_firstWrongPlace_4 ?_
  refine f_icmp_ge hC 41 dX0_firstWrongPlace_7 (by decide) (fun c11 => ?_) (fun c11 => ?_)
  · replace h2 := fi_pos h2 c11
    obtain rfl := Option.some.inj h2
    have eo := ou4 _ rfl
    refine f_sub (L' := []) [] rfl ?_
    exact K9 _ eo.symm
  · replace h2 := fi_neg h2 c11
    refine f_aload_n hC dX0_firstWrongPlace_10 rfl 1 rfl ?_
    refine f_iload_n hC dX0_firstWrongPlace_11 rfl 2 rfl ?_
    obtain ⟨r12, h13, h2⟩ := fb_open h2
    refine f_callVN hC [.int s1] (c_X3_letterAt l D cy a1 s1 w r12 h13) q_433 q_75 q_430 q_432 q_5 h9_X3_letterAt rfl (fSm.k (fSm.rf w) g10) ⟨Nat.le_of_ble_eq_true rfl, Nat.le_of_ble_eq_true rfl⟩ ⟨Nat.le_of_ble_eq_true rfl, Nat.le_of_ble_eq_true rfl⟩ (Nat.le_of_ble_eq_true rfl) rfl dX0_firstWrongPlace_12 (fun e14 => ?_)
    refine f_istore_n (L' := [(3, .int r12), (0, .ref a0), (1, .ref a1), (2, .int s1)]) hC dX0_firstWrongPlace_15 rfl (by decide) rfl ?_
    refine f_aload_n hC dX0_firstWrongPlace_16 rfl 1 rfl ?_
    refine f_iload_n hC dX0_firstWrongPlace_17 rfl 0 rfl ?_
    refine f_aload_n hC dX0_firstWrongPlace_18 rfl 1 rfl ?_
    obtain ⟨g15, h2⟩ := fg_open h2
    refine f_getI hC 0 1 1 rfl (by decide) iX0 q_150 rfl rfl (fSm.k (fSm.rf w) g15) dX0_firstWrongPlace_19 ?_
    refine f_aload_n hC dX0_firstWrongPlace_22 rfl 1 rfl ?_
    refine f_getI hC 0 2 2 rfl (by decide) iX0 q_153 rfl rfl (fSm.k (fSm.rf w) g15) dX0_firstWrongPlace_23 ?_
    obtain ⟨r16, h17, h2⟩ := fb_open h2
    refine f_callV hC [.int r12, .int (gI w 1 a0 0), .int (gI w 2 a0 0)] (c_X0_seenAs l D cy a0 r12 (gI w 1 a0 0) (gI w 2 a0 0) w r16 h17) q_452 q_77 q_449 q_451 q_9 h9_X0_seenAs rfl (fSm.k (fSm.rf w) g15) ⟨Nat.le_of_ble_eq_true rfl, Nat.le_of_ble_eq_true rfl⟩ ⟨Nat.le_of_ble_eq_true rfl, Nat.le_of_ble_eq_true rfl⟩ (Nat.le_of_ble_eq_true rfl) rfl dX0_firstWrongPlace_26 (fun e18 => ?_)
    refine f_iload_n hC dX0_firstWrongPlace_29 rfl 0 rfl ?_
    refine f_icmp_eq hC 35 dX0_firstWrongPlace_30 (by decide) (fun c19 => ?_) (fun c19 => ?_)
    · replace h2 := fi_pos h2 c19
      refine f_iinc (L' := [(2, .int (s1 + 1)), (3, .int r12), (0, .ref a0), (1, .ref a1)]) hC dX0_firstWrongPlace_35 3 rfl rfl (by decide) rfl ?_
      refine f_goto hC 2 dX0_firstWrongPlace_38 (by decide) ?_
      obtain rfl := Option.some.inj h2
      refine f_sub (L' := [(0, .ref a0), (1, .ref a1), (2, .int (s1 + 1))]) [2, 3, 0] rfl ?_
      exact go3 _ rfl
    · replace h2 := fi_neg h2 c19
      refine f_iload_n hC dX0_firstWrongPlace_33 rfl 3 rfl ?_
      obtain rfl := Option.some.inj h2
      obtain rfl := ou4 _ rfl
      obtain rfl := Option.some.inj hF
      exact f_iret hC hEn (fSm.rf w) dX0_firstWrongPlace_34
theorem dX1_hindrance_0 : decode cX1_hindrance 0 = .ok (.aload_n 1, 1) := by decide +kernel
theorem dX1_hindrance_1 : decode cX1_hindrance 1 = .ok (.iload_n 2, 1) := by decide +kernel
theorem dX1_hindrance_2 : decode cX1_hindrance 2 = .ok (.invokevirtual 106, 3) := by decide +kernel
theorem dX1_hindrance_5 : decode cX1_hindrance 5 = .ok (.astore_n 3, 1) := by decide +kernel
theorem dX1_hindrance_6 : decode cX1_hindrance 6 = .ok (.aload_n 3, 1) := by decide +kernel
theorem dX1_hindrance_7 : decode cX1_hindrance 7 = .ok (.getfield 77, 3) := by decide +kernel
theorem dX1_hindrance_10 : decode cX1_hindrance 10 = .ok (.ifCond .eq 5, 3) := by decide +kernel
theorem dX1_hindrance_13 : decode cX1_hindrance 13 = .ok (.iconst 4, 1) := by decide +kernel
theorem dX1_hindrance_14 : decode cX1_hindrance 14 = .ok (.ireturn, 1) := by decide +kernel
theorem dX1_hindrance_15 : decode cX1_hindrance 15 = .ok (.aload_n 3, 1) := by decide +kernel
theorem dX1_hindrance_16 : decode cX1_hindrance 16 = .ok (.getfield 85, 3) := by decide +kernel
theorem dX1_hindrance_19 : decode cX1_hindrance 19 = .ok (.ifCond .ne 5, 3) := by decide +kernel
theorem dX1_hindrance_22 : decode cX1_hindrance 22 = .ok (.iconst 5, 1) := by decide +kernel
theorem dX1_hindrance_23 : decode cX1_hindrance 23 = .ok (.ireturn, 1) := by decide +kernel
theorem dX1_hindrance_24 : decode cX1_hindrance 24 = .ok (.aload_n 3, 1) := by decide +kernel
theorem dX1_hindrance_25 : decode cX1_hindrance 25 = .ok (.getfield 110, 3) := by decide +kernel
theorem dX1_hindrance_28 : decode cX1_hindrance 28 = .ok (.ifCond .eq 6, 3) := by decide +kernel
theorem dX1_hindrance_31 : decode cX1_hindrance 31 = .ok (.bipush 6, 2) := by decide +kernel
theorem dX1_hindrance_33 : decode cX1_hindrance 33 = .ok (.ireturn, 1) := by decide +kernel
theorem dX1_hindrance_34 : decode cX1_hindrance 34 = .ok (.iload_n 2, 1) := by decide +kernel
theorem dX1_hindrance_35 : decode cX1_hindrance 35 = .ok (.ifCond .eq 16, 3) := by decide +kernel
theorem dX1_hindrance_38 : decode cX1_hindrance 38 = .ok (.aload_n 1, 1) := by decide +kernel
theorem dX1_hindrance_39 : decode cX1_hindrance 39 = .ok (.getfield 73, 3) := by decide +kernel
theorem dX1_hindrance_42 : decode cX1_hindrance 42 = .ok (.getfield 110, 3) := by decide +kernel
theorem dX1_hindrance_45 : decode cX1_hindrance 45 = .ok (.ifCond .ne 6, 3) := by decide +kernel
theorem dX1_hindrance_48 : decode cX1_hindrance 48 = .ok (.bipush 7, 2) := by decide +kernel
theorem dX1_hindrance_50 : decode cX1_hindrance 50 = .ok (.ireturn, 1) := by decide +kernel
theorem dX1_hindrance_51 : decode cX1_hindrance 51 = .ok (.iload_n 2, 1) := by decide +kernel
theorem dX1_hindrance_52 : decode cX1_hindrance 52 = .ok (.ifCond .eq 22, 3) := by decide +kernel
theorem dX1_hindrance_55 : decode cX1_hindrance 55 = .ok (.aload_n 0, 1) := by decide +kernel
theorem dX1_hindrance_56 : decode cX1_hindrance 56 = .ok (.getfield 36, 3) := by decide +kernel
theorem dX1_hindrance_59 : decode cX1_hindrance 59 = .ok (.aload_n 1, 1) := by decide +kernel
theorem dX1_hindrance_60 : decode cX1_hindrance 60 = .ok (.getfield 113, 3) := by decide +kernel
theorem dX1_hindrance_63 : decode cX1_hindrance 63 = .ok (.isub, 1) := by decide +kernel
theorem dX1_hindrance_64 : decode cX1_hindrance 64 = .ok (.aload_n 1, 1) := by decide +kernel
theorem dX1_hindrance_65 : decode cX1_hindrance 65 = .ok (.getfield 116, 3) := by decide +kernel
theorem dX1_hindrance_68 : decode cX1_hindrance 68 = .ok (.if_icmp .le 6, 3) := by decide +kernel
theorem dX1_hindrance_71 : decode cX1_hindrance 71 = .ok (.bipush 8, 2) := by decide +kernel
theorem dX1_hindrance_73 : decode cX1_hindrance 73 = .ok (.ireturn, 1) := by decide +kernel
theorem dX1_hindrance_74 : decode cX1_hindrance 74 = .ok (.aload_n 0, 1) := by decide +kernel
theorem dX1_hindrance_75 : decode cX1_hindrance 75 = .ok (.aload_n 1, 1) := by decide +kernel
theorem dX1_hindrance_76 : decode cX1_hindrance 76 = .ok (.getfield 119, 3) := by decide +kernel
theorem dX1_hindrance_79 : decode cX1_hindrance 79 = .ok (.invokevirtual 122, 3) := by decide +kernel
theorem dX1_hindrance_82 : decode cX1_hindrance 82 = .ok (.ifCond .ne 14, 3) := by decide +kernel
theorem dX1_hindrance_85 : decode cX1_hindrance 85 = .ok (.aload_n 0, 1) := by decide +kernel
theorem dX1_hindrance_86 : decode cX1_hindrance 86 = .ok (.aload_n 1, 1) := by decide +kernel
theorem dX1_hindrance_87 : decode cX1_hindrance 87 = .ok (.getfield 125, 3) := by decide +kernel
theorem dX1_hindrance_90 : decode cX1_hindrance 90 = .ok (.invokevirtual 122, 3) := by decide +kernel
theorem dX1_hindrance_93 : decode cX1_hindrance 93 = .ok (.ifCond .eq 6, 3) := by decide +kernel
theorem dX1_hindrance_96 : decode cX1_hindrance 96 = .ok (.bipush 9, 2) := by decide +kernel
theorem dX1_hindrance_98 : decode cX1_hindrance 98 = .ok (.ireturn, 1) := by decide +kernel
theorem dX1_hindrance_99 : decode cX1_hindrance 99 = .ok (.aload_n 3, 1) := by decide +kernel
theorem dX1_hindrance_100 : decode cX1_hindrance 100 = .ok (.aload_n 1, 1) := by decide +kernel
theorem dX1_hindrance_101 : decode cX1_hindrance 101 = .ok (.getfield 88, 3) := by decide +kernel
theorem dX1_hindrance_104 : decode cX1_hindrance 104 = .ok (.invokevirtual 128, 3) := by decide +kernel
theorem dX1_hindrance_107 : decode cX1_hindrance 107 = .ok (.iconst (-1), 1) := by decide +kernel
theorem dX1_hindrance_108 : decode cX1_hindrance 108 = .ok (.if_icmp .ne 7, 3) := by decide +kernel
theorem dX1_hindrance_111 : decode cX1_hindrance 111 = .ok (.iconst 0, 1) := by decide +kernel
theorem dX1_hindrance_112 : decode cX1_hindrance 112 = .ok (.goto 5, 3) := by decide +kernel
theorem dX1_hindrance_115 : decode cX1_hindrance 115 = .ok (.bipush 10, 2) := by decide +kernel
theorem dX1_hindrance_117 : decode cX1_hindrance 117 = .ok (.ireturn, 1) := by decide +kernel
theorem h9_X1_hindrance : yX1_hindrance.cls ≠ "java/lang/invoke/MethodHandle" ∧ yX1_hindrance.cls ≠ "java/lang/invoke/VarHandle" ∧ (parseMethodDescriptor yX1_hindrance.desc).map (fun d => d.parameters.length) = some 2 := by decide +kernel
noncomputable def F_X1_hindrance (a0 : Nat) (a1 : Nat) (x2 : Int32) (w : FW) : Option (Int32) :=
  fg (w.1 a1 = 3) inferInstance ((F_X2_half a1 x2 w).bind (fun r1 => fg (w.1 r1 = 1) inferInstance ((if (gI w 3 r1 0) = 0 then (if (gI w 0 r1 0) = 0 then some 5 else (if (gI w 4 r1 0) = 0 then (if x2 = 0 then (if x2 = 0 then fg (w.1 a0 = 2) inferInstance ((F_X1_isClosed a0 (gI w 201 a1 0) w).bind (fun r11 => (if r11 = 0 then (F_X1_isClosed a0 (gI w 202 a1 0) w).bind (fun r16 => (if r16 = 0 then (F_X0_firstWrongPlace r1 (gR w 200 a1 0) w).bind (fun r20 => (if r20 = (-1) then some 0 else some 10)) else some 9)) else some 9))) else fg (w.1 a0 = 2) inferInstance ((if ((gI w 105 a0 0) - (gI w 205 a1 0)) ≤ (gI w 203 a1 0) then (F_X1_isClosed a0 (gI w 201 a1 0) w).bind (fun r26 => (if r26 = 0 then (F_X1_isClosed a0 (gI w 202 a1 0) w).bind (fun r30 => (if r30 = 0 then (F_X0_firstWrongPlace r1 (gR w 200 a1 0) w).bind (fun r34 => (if r34 = (-1) then some 0 else some 10)) else some 9)) else some 9)) else some 8))) else fg (w.1 (gR w 206 a1 0) = 1) inferInstance ((if (gI w 4 (gR w 206 a1 0) 0) = 0 then some 7 else (if x2 = 0 then fg (w.1 a0 = 2) inferInstance ((F_X1_isClosed a0 (gI w 201 a1 0) w).bind (fun r41 => (if r41 = 0 then (F_X1_isClosed a0 (gI w 202 a1 0) w).bind (fun r46 => (if r46 = 0 then (F_X0_firstWrongPlace r1 (gR w 200 a1 0) w).bind (fun r50 => (if r50 = (-1) then some 0 else some 10)) else some 9)) else some 9))) else fg (w.1 a0 = 2) inferInstance ((if ((gI w 105 a0 0) - (gI w 205 a1 0)) ≤ (gI w 203 a1 0) then (F_X1_isClosed a0 (gI w 201 a1 0) w).bind (fun r56 => (if r56 = 0 then (F_X1_isClosed a0 (gI w 202 a1 0) w).bind (fun r60 => (if r60 = 0 then (F_X0_firstWrongPlace r1 (gR w 200 a1 0) w).bind (fun r64 => (if r64 = (-1) then some 0 else some 10)) else some 9)) else some 9)) else some 8)))))) else some 6)) else some 4))))
set_option maxHeartbeats 4000000 in
set_option maxRecDepth 100000 in
theorem c_X1_hindrance (l : Launch) (D : va_G) (cy : Nat → ClassId) (a0 : Nat) (a1 : Nat) (x2 : Int32) (w : FW) (r : Int32) (hF : F_X1_hindrance a0 a1 x2 w = some r) : fSpec l D cy yX1_hindrance cX1_hindrance 4 (some .int) { frames := 6, cells := 0, slots := 0, locals := 133 } [.ref a0, .ref a1, .int x2] w w (some (.int r)) := by
  refine f_begin (by decide +kernel) (Nat.le_of_ble_eq_true rfl) (fun X hC hEn => ?_)
  unfold F_X1_hindrance at hF
  show fAt X 0 0 4 w [(0, .ref a0), (1, .ref a1), (2, .int x2)] [] 0
  refine f_aload_n hC dX1_hindrance_0 rfl 1 rfl ?_
  refine f_iload_n hC dX1_hindrance_1 rfl 2 rfl ?_
  obtain ⟨g3, hF⟩ := fg_open hF
  obtain ⟨r1, h2, hF⟩ := fb_open hF
  refine f_callVN hC [.int x2] (c_X2_half l D cy a1 x2 w r1 h2) q_425 q_76 q_559 q_424 q_3 h9_X2_half rfl (fSm.k (fSm.rf w) g3) ⟨Nat.le_of_ble_eq_true rfl, Nat.le_of_ble_eq_true rfl⟩ ⟨Nat.le_of_ble_eq_true rfl, Nat.le_of_ble_eq_true rfl⟩ (Nat.le_of_ble_eq_true rfl) rfl dX1_hindrance_2 (fun e4 => ?_)
  refine f_astore_n (L' := [(3, .ref r1), (0, .ref a0), (1, .ref a1), (2, .int x2)]) hC dX1_hindrance_5 rfl (by decide) rfl ?_
  refine f_aload_n hC dX1_hindrance_6 rfl 0 rfl ?_
  obtain ⟨g5, hF⟩ := fg_open hF
  refine f_getIN hC 0 3 3 rfl (by decide) iX0 q_157 rfl rfl (fSm.k (fSm.rf w) g5) dX1_hindrance_7 ?_
  refine f_if_eq hC 15 dX1_hindrance_10 (by decide) (fun c6 => ?_) (fun c6 => ?_)
  · replace hF := fi_pos hF c6
    refine f_aload_n hC dX1_hindrance_15 rfl 0 rfl ?_
    refine f_getIN hC 0 0 0 rfl (by decide) iX0 q_148 rfl rfl (fSm.k (fSm.rf w) g5) dX1_hindrance_16 ?_
    refine f_if_ne hC 24 dX1_hindrance_19 (by decide) (fun c7 => ?_) (fun c7 => ?_)
    · replace hF := fi_neg hF c7
      refine f_aload_n hC dX1_hindrance_24 rfl 0 rfl ?_
      refine f_getIN hC 0 4 4 rfl (by decide) iX0 q_160 rfl rfl (fSm.k (fSm.rf w) g5) dX1_hindrance_25 ?_
      refine f_if_eq hC 34 dX1_hindrance_28 (by decide) (fun c8 => ?_) (fun c8 => ?_)
      · replace hF := fi_pos hF c8
        refine f_iload_n hC dX1_hindrance_34 rfl 3 rfl ?_
        refine f_if_eq hC 51 dX1_hindrance_35 (by decide) (fun c9 => ?_) (fun c9 => ?_)
        · replace hF := fi_pos hF c9
          refine f_iload_n hC dX1_hindrance_51 rfl 3 rfl ?_
          refine f_if_eq hC 74 dX1_hindrance_52 (by decide) (fun c10 => ?_) (fun c10 => ?_)
          · replace hF := fi_pos hF c10
            refine f_aload_n hC dX1_hindrance_74 rfl 1 rfl ?_
            refine f_aload_n hC dX1_hindrance_75 rfl 2 rfl ?_
            refine f_getIN hC 2 1 201 rfl (by decide) iX2 q_180 rfl rfl (fSm.k (fSm.rf w) g3) dX1_hindrance_76 ?_
            obtain ⟨g13, hF⟩ := fg_open hF
            obtain ⟨r11, h12, hF⟩ := fb_open hF
            refine f_callV hC [.int (gI w 201 a1 0)] (c_X1_isClosed l D cy a0 (gI w 201 a1 0) w r11 h12) q_563 q_74 q_560 q_562 q_12 h9_X1_isClosed rfl (fSm.k (fSm.rf w) g13) ⟨Nat.le_of_ble_eq_true rfl, Nat.le_of_ble_eq_true rfl⟩ ⟨Nat.le_of_ble_eq_true rfl, Nat.le_of_ble_eq_true rfl⟩ (Nat.le_of_ble_eq_true rfl) rfl dX1_hindrance_79 (fun e14 => ?_)
            refine f_if_ne hC 96 dX1_hindrance_82 (by decide) (fun c15 => ?_) (fun c15 => ?_)
            · replace hF := fi_neg hF c15
              refine f_bipush (v := 9) hC dX1_hindrance_96 (by decide) ?_
              obtain rfl := Option.some.inj hF
              exact f_iret hC hEn (fSm.rf w) dX1_hindrance_98
            · replace hF := fi_pos hF c15
              refine f_aload_n hC dX1_hindrance_85 rfl 1 rfl ?_
              refine f_aload_n hC dX1_hindrance_86 rfl 2 rfl ?_
              refine f_getIN hC 2 2 202 rfl (by decide) iX2 q_183 rfl rfl (fSm.k (fSm.rf w) g3) dX1_hindrance_87 ?_
              obtain ⟨r16, h17, hF⟩ := fb_open hF
              refine f_callV hC [.int (gI w 202 a1 0)] (c_X1_isClosed l D cy a0 (gI w 202 a1 0) w r16 h17) q_563 q_74 q_560 q_562 q_12 h9_X1_isClosed rfl (fSm.k (fSm.rf w) g13) ⟨Nat.le_of_ble_eq_true rfl, Nat.le_of_ble_eq_true rfl⟩ ⟨Nat.le_of_ble_eq_true rfl, Nat.le_of_ble_eq_true rfl⟩ (Nat.le_of_ble_eq_true rfl) rfl dX1_hindrance_90 (fun e18 => ?_)
              refine f_if_eq hC 99 dX1_hindrance_93 (by decide) (fun c19 => ?_) (fun c19 => ?_)
              · replace hF := fi_pos hF c19
                refine f_aload_n hC dX1_hindrance_99 rfl 0 rfl ?_
                refine f_aload_n hC dX1_hindrance_100 rfl 2 rfl ?_
                refine f_getRN hC 2 0 200 rfl (by decide) iX2 q_177 rfl rfl (fSm.k (fSm.rf w) g3) dX1_hindrance_101 ?_
                obtain ⟨r20, h21, hF⟩ := fb_open hF
                refine f_callVN hC [.ref (gR w 200 a1 0)] (c_X0_firstWrongPlace l D cy r1 (gR w 200 a1 0) w r20 h21) q_570 q_77 q_567 q_569 q_13 h9_X0_firstWrongPlace rfl (fSm.k (fSm.rf w) g5) ⟨Nat.le_of_ble_eq_true rfl, Nat.le_of_ble_eq_true rfl⟩ ⟨Nat.le_of_ble_eq_true rfl, Nat.le_of_ble_eq_true rfl⟩ (Nat.le_of_ble_eq_true rfl) rfl dX1_hindrance_104 (fun e22 => ?_)
                refine f_iconst (v := (-1)) hC dX1_hindrance_107 (by decide) ?_
                refine f_icmp_ne hC 115 dX1_hindrance_108 (by decide) (fun c23 => ?_) (fun c23 => ?_)
                · replace hF := fi_neg hF c23
                  refine f_bipush (v := 10) hC dX1_hindrance_115 (by decide) ?_
                  obtain rfl := Option.some.inj hF
                  exact f_iret hC hEn (fSm.rf w) dX1_hindrance_117
                · replace hF := fi_pos hF c23
                  refine f_iconst (v := 0) hC dX1_hindrance_111 (by decide) ?_
                  refine f_goto hC 117 dX1_hindrance_112 (by decide) ?_
                  obtain rfl := Option.some.inj hF
                  exact f_iret hC hEn (fSm.rf w) dX1_hindrance_117
              · replace hF := fi_neg hF c19
                refine f_bipush (v := 9) hC dX1_hindrance_96 (by decide) ?_
                obtain rfl := Option.some.inj hF
                exact f_iret hC hEn (fSm.rf w) dX1_hindrance_98
          · replace hF := fi_neg hF c10
            refine f_aload_n hC dX1_hindrance_55 rfl 1 rfl ?_
            obtain ⟨g24, hF⟩ := fg_open hF
            refine f_getI hC 1 5 105 rfl (by decide) iX1 q_226 rfl rfl (fSm.k (fSm.rf w) g24) dX1_hindrance_56 ?_
            refine f_aload_n hC dX1_hindrance_59 rfl 2 rfl ?_
            refine f_getIN hC 2 5 205 rfl (by decide) iX2 q_192 rfl rfl (fSm.k (fSm.rf w) g3) dX1_hindrance_60 ?_
            refine f_isub hC dX1_hindrance_63 ?_
            refine f_aload_n hC dX1_hindrance_64 rfl 2 rfl ?_
            refine f_getIN hC 2 3 203 rfl (by decide) iX2 q_186 rfl rfl (fSm.k (fSm.rf w) g3) dX1_hindrance_65 ?_
            refine f_icmp_le hC 74 dX1_hindrance_68 (by decide) (fun c25 => ?_) (fun c25 => ?_)
            · replace hF := fi_pos hF c25
              refine f_aload_n hC dX1_hindrance_74 rfl 1 rfl ?_
              refine f_aload_n hC dX1_hindrance_75 rfl 2 rfl ?_
              refine f_getIN hC 2 1 201 rfl (by decide) iX2 q_180 rfl rfl (fSm.k (fSm.rf w) g3) dX1_hindrance_76 ?_
              obtain ⟨r26, h27, hF⟩ := fb_open hF
              refine f_callV hC [.int (gI w 201 a1 0)] (c_X1_isClosed l D cy a0 (gI w 201 a1 0) w r26 h27) q_563 q_74 q_560 q_562 q_12 h9_X1_isClosed rfl (fSm.k (fSm.rf w) g24) ⟨Nat.le_of_ble_eq_true rfl, Nat.le_of_ble_eq_true rfl⟩ ⟨Nat.le_of_ble_eq_true rfl, Nat.le_of_ble_eq_true rfl⟩ (Nat.le_of_ble_eq_true rfl) rfl dX1_hindrance_79 (fun e28 => ?_)
              refine f_if_ne hC 96 dX1_hindrance_82 (by decide) (fun c29 => ?_) (fun c29 => ?_)
              · replace hF := fi_neg hF c29
                refine f_bipush (v := 9) hC dX1_hindrance_96 (by decide) ?_
                obtain rfl := Option.some.inj hF
                exact f_iret hC hEn (fSm.rf w) dX1_hindrance_98
              · replace hF := fi_pos hF c29
                refine f_aload_n hC dX1_hindrance_85 rfl 1 rfl ?_
                refine f_aload_n hC dX1_hindrance_86 rfl 2 rfl ?_
                refine f_getIN hC 2 2 202 rfl (by decide) iX2 q_183 rfl rfl (fSm.k (fSm.rf w) g3) dX1_hindrance_87 ?_
                obtain ⟨r30, h31, hF⟩ := fb_open hF
                refine f_callV hC [.int (gI w 202 a1 0)] (c_X1_isClosed l D cy a0 (gI w 202 a1 0) w r30 h31) q_563 q_74 q_560 q_562 q_12 h9_X1_isClosed rfl (fSm.k (fSm.rf w) g24) ⟨Nat.le_of_ble_eq_true rfl, Nat.le_of_ble_eq_true rfl⟩ ⟨Nat.le_of_ble_eq_true rfl, Nat.le_of_ble_eq_true rfl⟩ (Nat.le_of_ble_eq_true rfl) rfl dX1_hindrance_90 (fun e32 => ?_)
                refine f_if_eq hC 99 dX1_hindrance_93 (by decide) (fun c33 => ?_) (fun c33 => ?_)
                · replace hF := fi_pos hF c33
                  refine f_aload_n hC dX1_hindrance_99 rfl 0 rfl ?_
                  refine f_aload_n hC dX1_hindrance_100 rfl 2 rfl ?_
                  refine f_getRN hC 2 0 200 rfl (by decide) iX2 q_177 rfl rfl (fSm.k (fSm.rf w) g3) dX1_hindrance_101 ?_
                  obtain ⟨r34, h35, hF⟩ := fb_open hF
                  refine f_callVN hC [.ref (gR w 200 a1 0)] (c_X0_firstWrongPlace l D cy r1 (gR w 200 a1 0) w r34 h35) q_570 q_77 q_567 q_569 q_13 h9_X0_firstWrongPlace rfl (fSm.k (fSm.rf w) g5) ⟨Nat.le_of_ble_eq_true rfl, Nat.le_of_ble_eq_true rfl⟩ ⟨Nat.le_of_ble_eq_true rfl, Nat.le_of_ble_eq_true rfl⟩ (Nat.le_of_ble_eq_true rfl) rfl dX1_hindrance_104 (fun e36 => ?_)
                  refine f_iconst (v := (-1)) hC dX1_hindrance_107 (by decide) ?_
                  refine f_icmp_ne hC 115 dX1_hindrance_108 (by decide) (fun c37 => ?_) (fun c37 => ?_)
                  · replace hF := fi_neg hF c37
                    refine f_bipush (v := 10) hC dX1_hindrance_115 (by decide) ?_
                    obtain rfl := Option.some.inj hF
                    exact f_iret hC hEn (fSm.rf w) dX1_hindrance_117
                  · replace hF := fi_pos hF c37
                    refine f_iconst (v := 0) hC dX1_hindrance_111 (by decide) ?_
                    refine f_goto hC 117 dX1_hindrance_112 (by decide) ?_
                    obtain rfl := Option.some.inj hF
                    exact f_iret hC hEn (fSm.rf w) dX1_hindrance_117
                · replace hF := fi_neg hF c33
                  refine f_bipush (v := 9) hC dX1_hindrance_96 (by decide) ?_
                  obtain rfl := Option.some.inj hF
                  exact f_iret hC hEn (fSm.rf w) dX1_hindrance_98
            · replace hF := fi_neg hF c25
              refine f_bipush (v := 8) hC dX1_hindrance_71 (by decide) ?_
              obtain rfl := Option.some.inj hF
              exact f_iret hC hEn (fSm.rf w) dX1_hindrance_73
        · replace hF := fi_neg hF c9
          refine f_aload_n hC dX1_hindrance_38 rfl 2 rfl ?_
          refine f_getRN hC 2 6 206 rfl (by decide) iX2 q_194 rfl rfl (fSm.k (fSm.rf w) g3) dX1_hindrance_39 ?_
          obtain ⟨g38, hF⟩ := fg_open hF
          refine f_getIN hC 0 4 4 rfl (by decide) iX0 q_160 rfl rfl (fSm.k (fSm.rf w) g38) dX1_hindrance_42 ?_
          refine f_if_ne hC 51 dX1_hindrance_45 (by decide) (fun c39 => ?_) (fun c39 => ?_)
          · replace hF := fi_neg hF c39
            refine f_iload_n hC dX1_hindrance_51 rfl 3 rfl ?_
            refine f_if_eq hC 74 dX1_hindrance_52 (by decide) (fun c40 => ?_) (fun c40 => ?_)
            · replace hF := fi_pos hF c40
              refine f_aload_n hC dX1_hindrance_74 rfl 1 rfl ?_
              refine f_aload_n hC dX1_hindrance_75 rfl 2 rfl ?_
              refine f_getIN hC 2 1 201 rfl (by decide) iX2 q_180 rfl rfl (fSm.k (fSm.rf w) g3) dX1_hindrance_76 ?_
              obtain ⟨g43, hF⟩ := fg_open hF
              obtain ⟨r41, h42, hF⟩ := fb_open hF
              refine f_callV hC [.int (gI w 201 a1 0)] (c_X1_isClosed l D cy a0 (gI w 201 a1 0) w r41 h42) q_563 q_74 q_560 q_562 q_12 h9_X1_isClosed rfl (fSm.k (fSm.rf w) g43) ⟨Nat.le_of_ble_eq_true rfl, Nat.le_of_ble_eq_true rfl⟩ ⟨Nat.le_of_ble_eq_true rfl, Nat.le_of_ble_eq_true rfl⟩ (Nat.le_of_ble_eq_true rfl) rfl dX1_hindrance_79 (fun e44 => ?_)
              refine f_if_ne hC 96 dX1_hindrance_82 (by decide) (fun c45 => ?_) (fun c45 => ?_)
              · replace hF := fi_neg hF c45
                refine f_bipush (v := 9) hC dX1_hindrance_96 (by decide) ?_
                obtain rfl := Option.some.inj hF
                exact f_iret hC hEn (fSm.rf w) dX1_hindrance_98
              · replace hF := fi_pos hF c45
                refine f_aload_n hC dX1_hindrance_85 rfl 1 rfl ?_
                refine f_aload_n hC dX1_hindrance_86 rfl 2 rfl ?_
                refine f_getIN hC 2 2 202 rfl (by decide) iX2 q_183 rfl rfl (fSm.k (fSm.rf w) g3) dX1_hindrance_87 ?_
                obtain ⟨r46, h47, hF⟩ := fb_open hF
                refine f_callV hC [.int (gI w 202 a1 0)] (c_X1_isClosed l D cy a0 (gI w 202 a1 0) w r46 h47) q_563 q_74 q_560 q_562 q_12 h9_X1_isClosed rfl (fSm.k (fSm.rf w) g43) ⟨Nat.le_of_ble_eq_true rfl, Nat.le_of_ble_eq_true rfl⟩ ⟨Nat.le_of_ble_eq_true rfl, Nat.le_of_ble_eq_true rfl⟩ (Nat.le_of_ble_eq_true rfl) rfl dX1_hindrance_90 (fun e48 => ?_)
                refine f_if_eq hC 99 dX1_hindrance_93 (by decide) (fun c49 => ?_) (fun c49 => ?_)
                · replace hF := fi_pos hF c49
                  refine f_aload_n hC dX1_hindrance_99 rfl 0 rfl ?_
                  refine f_aload_n hC dX1_hindrance_100 rfl 2 rfl ?_
                  refine f_getRN hC 2 0 200 rfl (by decide) iX2 q_177 rfl rfl (fSm.k (fSm.rf w) g3) dX1_hindrance_101 ?_
                  obtain ⟨r50, h51, hF⟩ := fb_open hF
                  refine f_callVN hC [.ref (gR w 200 a1 0)] (c_X0_firstWrongPlace l D cy r1 (gR w 200 a1 0) w r50 h51) q_570 q_77 q_567 q_569 q_13 h9_X0_firstWrongPlace rfl (fSm.k (fSm.rf w) g5) ⟨Nat.le_of_ble_eq_true rfl, Nat.le_of_ble_eq_true rfl⟩ ⟨Nat.le_of_ble_eq_true rfl, Nat.le_of_ble_eq_true rfl⟩ (Nat.le_of_ble_eq_true rfl) rfl dX1_hindrance_104 (fun e52 => ?_)
                  refine f_iconst (v := (-1)) hC dX1_hindrance_107 (by decide) ?_
                  refine f_icmp_ne hC 115 dX1_hindrance_108 (by decide) (fun c53 => ?_) (fun c53 => ?_)
                  · replace hF := fi_neg hF c53
                    refine f_bipush (v := 10) hC dX1_hindrance_115 (by decide) ?_
                    obtain rfl := Option.some.inj hF
                    exact f_iret hC hEn (fSm.rf w) dX1_hindrance_117
                  · replace hF := fi_pos hF c53
                    refine f_iconst (v := 0) hC dX1_hindrance_111 (by decide) ?_
                    refine f_goto hC 117 dX1_hindrance_112 (by decide) ?_
                    obtain rfl := Option.some.inj hF
                    exact f_iret hC hEn (fSm.rf w) dX1_hindrance_117
                · replace hF := fi_neg hF c49
                  refine f_bipush (v := 9) hC dX1_hindrance_96 (by decide) ?_
                  obtain rfl := Option.some.inj hF
                  exact f_iret hC hEn (fSm.rf w) dX1_hindrance_98
            · replace hF := fi_neg hF c40
              refine f_aload_n hC dX1_hindrance_55 rfl 1 rfl ?_
              obtain ⟨g54, hF⟩ := fg_open hF
              refine f_getI hC 1 5 105 rfl (by decide) iX1 q_226 rfl rfl (fSm.k (fSm.rf w) g54) dX1_hindrance_56 ?_
              refine f_aload_n hC dX1_hindrance_59 rfl 2 rfl ?_
              refine f_getIN hC 2 5 205 rfl (by decide) iX2 q_192 rfl rfl (fSm.k (fSm.rf w) g3) dX1_hindrance_60 ?_
              refine f_isub hC dX1_hindrance_63 ?_
              refine f_aload_n hC dX1_hindrance_64 rfl 2 rfl ?_
              refine f_getIN hC 2 3 203 rfl (by decide) iX2 q_186 rfl rfl (fSm.k (fSm.rf w) g3) dX1_hindrance_65 ?_
              refine f_icmp_le hC 74 dX1_hindrance_68 (by decide) (fun c55 => ?_) (fun c55 => ?_)
              · replace hF := fi_pos hF c55
                refine f_aload_n hC dX1_hindrance_74 rfl 1 rfl ?_
                refine f_aload_n hC dX1_hindrance_75 rfl 2 rfl ?_
                refine f_getIN hC 2 1 201 rfl (by decide) iX2 q_180 rfl rfl (fSm.k (fSm.rf w) g3) dX1_hindrance_76 ?_
                obtain ⟨r56, h57, hF⟩ := fb_open hF
                refine f_callV hC [.int (gI w 201 a1 0)] (c_X1_isClosed l D cy a0 (gI w 201 a1 0) w r56 h57) q_563 q_74 q_560 q_562 q_12 h9_X1_isClosed rfl (fSm.k (fSm.rf w) g54) ⟨Nat.le_of_ble_eq_true rfl, Nat.le_of_ble_eq_true rfl⟩ ⟨Nat.le_of_ble_eq_true rfl, Nat.le_of_ble_eq_true rfl⟩ (Nat.le_of_ble_eq_true rfl) rfl dX1_hindrance_79 (fun e58 => ?_)
                refine f_if_ne hC 96 dX1_hindrance_82 (by decide) (fun c59 => ?_) (fun c59 => ?_)
                · replace hF := fi_neg hF c59
                  refine f_bipush (v := 9) hC dX1_hindrance_96 (by decide) ?_
                  obtain rfl := Option.some.inj hF
                  exact f_iret hC hEn (fSm.rf w) dX1_hindrance_98
                · replace hF := fi_pos hF c59
                  refine f_aload_n hC dX1_hindrance_85 rfl 1 rfl ?_
                  refine f_aload_n hC dX1_hindrance_86 rfl 2 rfl ?_
                  refine f_getIN hC 2 2 202 rfl (by decide) iX2 q_183 rfl rfl (fSm.k (fSm.rf w) g3) dX1_hindrance_87 ?_
                  obtain ⟨r60, h61, hF⟩ := fb_open hF
                  refine f_callV hC [.int (gI w 202 a1 0)] (c_X1_isClosed l D cy a0 (gI w 202 a1 0) w r60 h61) q_563 q_74 q_560 q_562 q_12 h9_X1_isClosed rfl (fSm.k (fSm.rf w) g54) ⟨Nat.le_of_ble_eq_true rfl, Nat.le_of_ble_eq_true rfl⟩ ⟨Nat.le_of_ble_eq_true rfl, Nat.le_of_ble_eq_true rfl⟩ (Nat.le_of_ble_eq_true rfl) rfl dX1_hindrance_90 (fun e62 => ?_)
                  refine f_if_eq hC 99 dX1_hindrance_93 (by decide) (fun c63 => ?_) (fun c63 => ?_)
                  · replace hF := fi_pos hF c63
                    refine f_aload_n hC dX1_hindrance_99 rfl 0 rfl ?_
                    refine f_aload_n hC dX1_hindrance_100 rfl 2 rfl ?_
                    refine f_getRN hC 2 0 200 rfl (by decide) iX2 q_177 rfl rfl (fSm.k (fSm.rf w) g3) dX1_hindrance_101 ?_
                    obtain ⟨r64, h65, hF⟩ := fb_open hF
                    refine f_callVN hC [.ref (gR w 200 a1 0)] (c_X0_firstWrongPlace l D cy r1 (gR w 200 a1 0) w r64 h65) q_570 q_77 q_567 q_569 q_13 h9_X0_firstWrongPlace rfl (fSm.k (fSm.rf w) g5) ⟨Nat.le_of_ble_eq_true rfl, Nat.le_of_ble_eq_true rfl⟩ ⟨Nat.le_of_ble_eq_true rfl, Nat.le_of_ble_eq_true rfl⟩ (Nat.le_of_ble_eq_true rfl) rfl dX1_hindrance_104 (fun e66 => ?_)
                    refine f_iconst (v := (-1)) hC dX1_hindrance_107 (by decide) ?_
                    refine f_icmp_ne hC 115 dX1_hindrance_108 (by decide) (fun c67 => ?_) (fun c67 => ?_)
                    · replace hF := fi_neg hF c67
                      refine f_bipush (v := 10) hC dX1_hindrance_115 (by decide) ?_
                      obtain rfl := Option.some.inj hF
                      exact f_iret hC hEn (fSm.rf w) dX1_hindrance_117
                    · replace hF := fi_pos hF c67
                      refine f_iconst (v := 0) hC dX1_hindrance_111 (by decide) ?_
                      refine f_goto hC 117 dX1_hindrance_112 (by decide) ?_
                      obtain rfl := Option.some.inj hF
                      exact f_iret hC hEn (fSm.rf w) dX1_hindrance_117
                  · replace hF := fi_neg hF c63
                    refine f_bipush (v := 9) hC dX1_hindrance_96 (by decide) ?_
                    obtain rfl := Option.some.inj hF
                    exact f_iret hC hEn (fSm.rf w) dX1_hindrance_98
              · replace hF := fi_neg hF c55
                refine f_bipush (v := 8) hC dX1_hindrance_71 (by decide) ?_
                obtain rfl := Option.some.inj hF
                exact f_iret hC hEn (fSm.rf w) dX1_hindrance_73
          · replace hF := fi_pos hF c39
            refine f_bipush (v := 7) hC dX1_hindrance_48 (by decide) ?_
            obtain rfl := Option.some.inj hF
            exact f_iret hC hEn (fSm.rf w) dX1_hindrance_50
      · replace hF := fi_neg hF c8
        refine f_bipush (v := 6) hC dX1_hindrance_31 (by decide) ?_
        obtain rfl := Option.some.inj hF
        exact f_iret hC hEn (fSm.rf w) dX1_hindrance_33
    · replace hF := fi_pos hF c7
      refine f_iconst (v := 5) hC dX1_hindrance_22 (by decide) ?_
      obtain rfl := Option.some.inj hF
      exact f_iret hC hEn (fSm.rf w) dX1_hindrance_23
  · replace hF := fi_neg hF c6
    refine f_iconst (v := 4) hC dX1_hindrance_13 (by decide) ?_
    obtain rfl := Option.some.inj hF
    exact f_iret hC hEn (fSm.rf w) dX1_hindrance_14
theorem dX1_hindranceDetail_0 : decode cX1_hindranceDetail 0 = .ok (.aload_n 1, 1) := by decide +kernel
theorem dX1_hindranceDetail_1 : decode cX1_hindranceDetail 1 = .ok (.getfield 119, 3) := by decide +kernel
theorem dX1_hindranceDetail_4 : decode cX1_hindranceDetail 4 = .ok (.aload_n 1, 1) := by decide +kernel
theorem dX1_hindranceDetail_5 : decode cX1_hindranceDetail 5 = .ok (.getfield 125, 3) := by decide +kernel
theorem dX1_hindranceDetail_8 : decode cX1_hindranceDetail 8 = .ok (.invokestatic 132, 3) := by decide +kernel
theorem dX1_hindranceDetail_11 : decode cX1_hindranceDetail 11 = .ok (.istore 4, 2) := by decide +kernel
theorem dX1_hindranceDetail_13 : decode cX1_hindranceDetail 13 = .ok (.aload_n 1, 1) := by decide +kernel
theorem dX1_hindranceDetail_14 : decode cX1_hindranceDetail 14 = .ok (.getfield 119, 3) := by decide +kernel
theorem dX1_hindranceDetail_17 : decode cX1_hindranceDetail 17 = .ok (.aload_n 1, 1) := by decide +kernel
theorem dX1_hindranceDetail_18 : decode cX1_hindranceDetail 18 = .ok (.getfield 125, 3) := by decide +kernel
theorem dX1_hindranceDetail_21 : decode cX1_hindranceDetail 21 = .ok (.invokestatic 138, 3) := by decide +kernel
theorem dX1_hindranceDetail_24 : decode cX1_hindranceDetail 24 = .ok (.istore 5, 2) := by decide +kernel
theorem dX1_hindranceDetail_26 : decode cX1_hindranceDetail 26 = .ok (.iload_n 3, 1) := by decide +kernel
theorem dX1_hindranceDetail_27 : decode cX1_hindranceDetail 27 = .ok (.tableswitch 74 7 10 #[29, 34, 44, 61], 29) := by decide +kernel
theorem dX1_hindranceDetail_56 : decode cX1_hindranceDetail 56 = .ok (.aload_n 0, 1) := by decide +kernel
theorem dX1_hindranceDetail_57 : decode cX1_hindranceDetail 57 = .ok (.getfield 36, 3) := by decide +kernel
theorem dX1_hindranceDetail_60 : decode cX1_hindranceDetail 60 = .ok (.ireturn, 1) := by decide +kernel
theorem dX1_hindranceDetail_61 : decode cX1_hindranceDetail 61 = .ok (.aload_n 0, 1) := by decide +kernel
theorem dX1_hindranceDetail_62 : decode cX1_hindranceDetail 62 = .ok (.getfield 36, 3) := by decide +kernel
theorem dX1_hindranceDetail_65 : decode cX1_hindranceDetail 65 = .ok (.aload_n 1, 1) := by decide +kernel
theorem dX1_hindranceDetail_66 : decode cX1_hindranceDetail 66 = .ok (.getfield 113, 3) := by decide +kernel
theorem dX1_hindranceDetail_69 : decode cX1_hindranceDetail 69 = .ok (.isub, 1) := by decide +kernel
theorem dX1_hindranceDetail_70 : decode cX1_hindranceDetail 70 = .ok (.ireturn, 1) := by decide +kernel
theorem dX1_hindranceDetail_71 : decode cX1_hindranceDetail 71 = .ok (.aload_n 0, 1) := by decide +kernel
theorem dX1_hindranceDetail_72 : decode cX1_hindranceDetail 72 = .ok (.iload 4, 2) := by decide +kernel
theorem dX1_hindranceDetail_74 : decode cX1_hindranceDetail 74 = .ok (.invokevirtual 122, 3) := by decide +kernel
theorem dX1_hindranceDetail_77 : decode cX1_hindranceDetail 77 = .ok (.ifCond .eq 8, 3) := by decide +kernel
theorem dX1_hindranceDetail_80 : decode cX1_hindranceDetail 80 = .ok (.iload 4, 2) := by decide +kernel
theorem dX1_hindranceDetail_82 : decode cX1_hindranceDetail 82 = .ok (.goto 5, 3) := by decide +kernel
theorem dX1_hindranceDetail_85 : decode cX1_hindranceDetail 85 = .ok (.iload 5, 2) := by decide +kernel
theorem dX1_hindranceDetail_87 : decode cX1_hindranceDetail 87 = .ok (.ireturn, 1) := by decide +kernel
theorem dX1_hindranceDetail_88 : decode cX1_hindranceDetail 88 = .ok (.aload_n 1, 1) := by decide +kernel
theorem dX1_hindranceDetail_89 : decode cX1_hindranceDetail 89 = .ok (.iload_n 2, 1) := by decide +kernel
theorem dX1_hindranceDetail_90 : decode cX1_hindranceDetail 90 = .ok (.invokevirtual 106, 3) := by decide +kernel
theorem dX1_hindranceDetail_93 : decode cX1_hindranceDetail 93 = .ok (.aload_n 1, 1) := by decide +kernel
theorem dX1_hindranceDetail_94 : decode cX1_hindranceDetail 94 = .ok (.getfield 88, 3) := by decide +kernel
theorem dX1_hindranceDetail_97 : decode cX1_hindranceDetail 97 = .ok (.invokevirtual 128, 3) := by decide +kernel
theorem dX1_hindranceDetail_100 : decode cX1_hindranceDetail 100 = .ok (.ireturn, 1) := by decide +kernel
theorem dX1_hindranceDetail_101 : decode cX1_hindranceDetail 101 = .ok (.iload_n 2, 1) := by decide +kernel
theorem dX1_hindranceDetail_102 : decode cX1_hindranceDetail 102 = .ok (.ifCond .eq 7, 3) := by decide +kernel
theorem dX1_hindranceDetail_105 : decode cX1_hindranceDetail 105 = .ok (.iconst 1, 1) := by decide +kernel
theorem dX1_hindranceDetail_106 : decode cX1_hindranceDetail 106 = .ok (.goto 4, 3) := by decide +kernel
theorem dX1_hindranceDetail_109 : decode cX1_hindranceDetail 109 = .ok (.iconst 0, 1) := by decide +kernel
theorem dX1_hindranceDetail_110 : decode cX1_hindranceDetail 110 = .ok (.ireturn, 1) := by decide +kernel
theorem h9_X1_hindranceDetail : yX1_hindranceDetail.cls ≠ "java/lang/invoke/MethodHandle" ∧ yX1_hindranceDetail.cls ≠ "java/lang/invoke/VarHandle" ∧ (parseMethodDescriptor yX1_hindranceDetail.desc).map (fun d => d.parameters.length) = some 3 := by decide +kernel
noncomputable def F_X1_hindranceDetail (a0 : Nat) (a1 : Nat) (x2 : Int32) (x3 : Int32) (w : FW) : Option (Int32) :=
  fg (w.1 a1 = 3) inferInstance ((F_J9_min_7cf53 (gI w 201 a1 0) (gI w 202 a1 0) w).bind (fun r2 => (F_J9_max_7cf53 (gI w 201 a1 0) (gI w 202 a1 0) w).bind (fun r5 => (if x3 = 7 then fg (w.1 a0 = 2) inferInstance (some (gI w 105 a0 0)) else (if x3 = 8 then fg (w.1 a0 = 2) inferInstance (some ((gI w 105 a0 0) - (gI w 205 a1 0))) else (if x3 = 9 then fg (w.1 a0 = 2) inferInstance ((F_X1_isClosed a0 r2 w).bind (fun r13 => (if r13 = 0 then some r5 else some r2))) else (if x3 = 10 then (F_X2_half a1 x2 w).bind (fun r19 => fg (w.1 r19 = 1) inferInstance ((F_X0_firstWrongPlace r19 (gR w 200 a1 0) w).bind (fun r22 => some r22))) else (if x2 = 0 then some 0 else some 1))))))))
set_option maxHeartbeats 4000000 in
set_option maxRecDepth 100000 in
theorem c_X1_hindranceDetail (l : Launch) (D : va_G) (cy : Nat → ClassId) (a0 : Nat) (a1 : Nat) (x2 : Int32) (x3 : Int32) (w : FW) (r : Int32) (hF : F_X1_hindranceDetail a0 a1 x2 x3 w = some r) : fSpec l D cy yX1_hindranceDetail cX1_hindranceDetail 6 (some .int) { frames := 6, cells := 0, slots := 0, locals := 133 } [.ref a0, .ref a1, .int x2, .int x3] w w (some (.int r)) := by
  refine f_begin (by decide +kernel) (Nat.le_of_ble_eq_true rfl) (fun X hC hEn => ?_)
  unfold F_X1_hindranceDetail at hF
  show fAt X 0 0 6 w [(0, .ref a0), (1, .ref a1), (2, .int x2), (3, .int x3)] [] 0
  refine f_aload_n hC dX1_hindranceDetail_0 rfl 1 rfl ?_
  obtain ⟨g1, hF⟩ := fg_open hF
  refine f_getIN hC 2 1 201 rfl (by decide) iX2 q_180 rfl rfl (fSm.k (fSm.rf w) g1) dX1_hindranceDetail_1 ?_
  refine f_aload_n hC dX1_hindranceDetail_4 rfl 1 rfl ?_
  refine f_getIN hC 2 2 202 rfl (by decide) iX2 q_183 rfl rfl (fSm.k (fSm.rf w) g1) dX1_hindranceDetail_5 ?_
  obtain ⟨r2, h3, hF⟩ := fb_open hF
  refine f_callS hC [.int (gI w 201 a1 0), .int (gI w 202 a1 0)] (c_J9_min_7cf53 l D cy (gI w 201 a1 0) (gI w 202 a1 0) w r2 h3) q_547 q_85 q_1026 q_546 h9_J9_min_7cf53 ⟨Nat.le_of_ble_eq_true rfl, Nat.le_of_ble_eq_true rfl⟩ ⟨Nat.le_of_ble_eq_true rfl, Nat.le_of_ble_eq_true rfl⟩ (Nat.le_of_ble_eq_true rfl) rfl dX1_hindranceDetail_8 (fun e4 => ?_)
  refine f_istore (L' := [(4, .int r2), (0, .ref a0), (1, .ref a1), (2, .int x2), (3, .int x3)]) hC dX1_hindranceDetail_11 (by decide) rfl ?_
  refine f_aload_n hC dX1_hindranceDetail_13 rfl 2 rfl ?_
  refine f_getIN hC 2 1 201 rfl (by decide) iX2 q_180 rfl rfl (fSm.k (fSm.rf w) g1) dX1_hindranceDetail_14 ?_
  refine f_aload_n hC dX1_hindranceDetail_17 rfl 2 rfl ?_
  refine f_getIN hC 2 2 202 rfl (by decide) iX2 q_183 rfl rfl (fSm.k (fSm.rf w) g1) dX1_hindranceDetail_18 ?_
  obtain ⟨r5, h6, hF⟩ := fb_open hF
  refine f_callS hC [.int (gI w 201 a1 0), .int (gI w 202 a1 0)] (c_J9_max_7cf53 l D cy (gI w 201 a1 0) (gI w 202 a1 0) w r5 h6) q_694 q_85 q_1027 q_693 h9_J9_max_7cf53 ⟨Nat.le_of_ble_eq_true rfl, Nat.le_of_ble_eq_true rfl⟩ ⟨Nat.le_of_ble_eq_true rfl, Nat.le_of_ble_eq_true rfl⟩ (Nat.le_of_ble_eq_true rfl) rfl dX1_hindranceDetail_21 (fun e7 => ?_)
  refine f_istore (L' := [(5, .int r5), (4, .int r2), (0, .ref a0), (1, .ref a1), (2, .int x2), (3, .int x3)]) hC dX1_hindranceDetail_24 (by decide) rfl ?_
  refine f_iload_n hC dX1_hindranceDetail_26 rfl 5 rfl ?_
  by_cases c8 : x3 = 7
  · replace hF := fi_pos hF c8
    refine f_tabIn hC 56 dX1_hindranceDetail_27 (by rw [c8] <;> decide) (by rw [c8] <;> decide) (by rw [c8] <;> rfl) (by decide) ?_
    refine f_aload_n hC dX1_hindranceDetail_56 rfl 2 rfl ?_
    obtain ⟨g9, hF⟩ := fg_open hF
    refine f_getI hC 1 5 105 rfl (by decide) iX1 q_226 rfl rfl (fSm.k (fSm.rf w) g9) dX1_hindranceDetail_57 ?_
    obtain rfl := Option.some.inj hF
    exact f_iret hC hEn (fSm.rf w) dX1_hindranceDetail_60
  · replace hF := fi_neg hF c8
    by_cases c10 : x3 = 8
    · replace hF := fi_pos hF c10
      refine f_tabIn hC 61 dX1_hindranceDetail_27 (by rw [c10] <;> decide) (by rw [c10] <;> decide) (by rw [c10] <;> rfl) (by decide) ?_
      refine f_aload_n hC dX1_hindranceDetail_61 rfl 2 rfl ?_
      obtain ⟨g11, hF⟩ := fg_open hF
      refine f_getI hC 1 5 105 rfl (by decide) iX1 q_226 rfl rfl (fSm.k (fSm.rf w) g11) dX1_hindranceDetail_62 ?_
      refine f_aload_n hC dX1_hindranceDetail_65 rfl 3 rfl ?_
      refine f_getIN hC 2 5 205 rfl (by decide) iX2 q_192 rfl rfl (fSm.k (fSm.rf w) g1) dX1_hindranceDetail_66 ?_
      refine f_isub hC dX1_hindranceDetail_69 ?_
      obtain rfl := Option.some.inj hF
      exact f_iret hC hEn (fSm.rf w) dX1_hindranceDetail_70
    · replace hF := fi_neg hF c10
      by_cases c12 : x3 = 9
      · replace hF := fi_pos hF c12
        refine f_tabIn hC 71 dX1_hindranceDetail_27 (by rw [c12] <;> decide) (by rw [c12] <;> decide) (by rw [c12] <;> rfl) (by decide) ?_
        refine f_aload_n hC dX1_hindranceDetail_71 rfl 2 rfl ?_
        refine f_iload hC dX1_hindranceDetail_72 1 rfl ?_
        obtain ⟨g15, hF⟩ := fg_open hF
        obtain ⟨r13, h14, hF⟩ := fb_open hF
        refine f_callV hC [.int r2] (c_X1_isClosed l D cy a0 r2 w r13 h14) q_563 q_74 q_560 q_562 q_12 h9_X1_isClosed rfl (fSm.k (fSm.rf w) g15) ⟨Nat.le_of_ble_eq_true rfl, Nat.le_of_ble_eq_true rfl⟩ ⟨Nat.le_of_ble_eq_true rfl, Nat.le_of_ble_eq_true rfl⟩ (Nat.le_of_ble_eq_true rfl) rfl dX1_hindranceDetail_74 (fun e16 => ?_)
        refine f_if_eq hC 85 dX1_hindranceDetail_77 (by decide) (fun c17 => ?_) (fun c17 => ?_)
        · replace hF := fi_pos hF c17
          refine f_iload hC dX1_hindranceDetail_85 0 rfl ?_
          obtain rfl := Option.some.inj hF
          exact f_iret hC hEn (fSm.rf w) dX1_hindranceDetail_87
        · replace hF := fi_neg hF c17
          refine f_iload hC dX1_hindranceDetail_80 1 rfl ?_
          refine f_goto hC 87 dX1_hindranceDetail_82 (by decide) ?_
          obtain rfl := Option.some.inj hF
          exact f_iret hC hEn (fSm.rf w) dX1_hindranceDetail_87
      · replace hF := fi_neg hF c12
        by_cases c18 : x3 = 10
        · replace hF := fi_pos hF c18
          refine f_tabIn hC 88 dX1_hindranceDetail_27 (by rw [c18] <;> decide) (by rw [c18] <;> decide) (by rw [c18] <;> rfl) (by decide) ?_
          refine f_aload_n hC dX1_hindranceDetail_88 rfl 3 rfl ?_
          refine f_iload_n hC dX1_hindranceDetail_89 rfl 4 rfl ?_
          obtain ⟨r19, h20, hF⟩ := fb_open hF
          refine f_callVN hC [.int x2] (c_X2_half l D cy a1 x2 w r19 h20) q_425 q_76 q_559 q_424 q_3 h9_X2_half rfl (fSm.k (fSm.rf w) g1) ⟨Nat.le_of_ble_eq_true rfl, Nat.le_of_ble_eq_true rfl⟩ ⟨Nat.le_of_ble_eq_true rfl, Nat.le_of_ble_eq_true rfl⟩ (Nat.le_of_ble_eq_true rfl) rfl dX1_hindranceDetail_90 (fun e21 => ?_)
          refine f_aload_n hC dX1_hindranceDetail_93 rfl 3 rfl ?_
          refine f_getRN hC 2 0 200 rfl (by decide) iX2 q_177 rfl rfl (fSm.k (fSm.rf w) g1) dX1_hindranceDetail_94 ?_
          obtain ⟨g24, hF⟩ := fg_open hF
          obtain ⟨r22, h23, hF⟩ := fb_open hF
          refine f_callVN hC [.ref (gR w 200 a1 0)] (c_X0_firstWrongPlace l D cy r19 (gR w 200 a1 0) w r22 h23) q_570 q_77 q_567 q_569 q_13 h9_X0_firstWrongPlace rfl (fSm.k (fSm.rf w) g24) ⟨Nat.le_of_ble_eq_true rfl, Nat.le_of_ble_eq_true rfl⟩ ⟨Nat.le_of_ble_eq_true rfl, Nat.le_of_ble_eq_true rfl⟩ (Nat.le_of_ble_eq_true rfl) rfl dX1_hindranceDetail_97 (fun e25 => ?_)
          obtain rfl := Option.some.inj hF
          exact f_iret hC hEn (fSm.rf w) dX1_hindranceDetail_100
        · replace hF := fi_neg hF c18
          refine f_tabOut hC 101 dX1_hindranceDetail_27 (ftab 7 10 (by decide) (by decide) (fun j h1 h2 => ?_)) (by decide) ?_
          · rcases (show j = 7 ∨ j = 8 ∨ j = 9 ∨ j = 10 by omega) with rfl | rfl | rfl | rfl
            · exact c8
            · exact c10
            · exact c12
            · exact c18
          refine f_iload_n hC dX1_hindranceDetail_101 rfl 4 rfl ?_
          refine f_if_eq hC 109 dX1_hindranceDetail_102 (by decide) (fun c26 => ?_) (fun c26 => ?_)
          · replace hF := fi_pos hF c26
            refine f_iconst (v := 0) hC dX1_hindranceDetail_109 (by decide) ?_
            obtain rfl := Option.some.inj hF
            exact f_iret hC hEn (fSm.rf w) dX1_hindranceDetail_110
          · replace hF := fi_neg hF c26
            refine f_iconst (v := 1) hC dX1_hindranceDetail_105 (by decide) ?_
            refine f_goto hC 110 dX1_hindranceDetail_106 (by decide) ?_
            obtain rfl := Option.some.inj hF
            exact f_iret hC hEn (fSm.rf w) dX1_hindranceDetail_110
theorem dX4_tryRide_0 : decode cX4_tryRide 0 = .ok (.aload_n 0, 1) := by decide +kernel
theorem dX4_tryRide_1 : decode cX4_tryRide 1 = .ok (.getfield 12, 3) := by decide +kernel
theorem dX4_tryRide_4 : decode cX4_tryRide 4 = .ok (.iload_n 1, 1) := by decide +kernel
theorem dX4_tryRide_5 : decode cX4_tryRide 5 = .ok (.invokevirtual 407, 3) := by decide +kernel
theorem dX4_tryRide_8 : decode cX4_tryRide 8 = .ok (.ifCond .ne 5, 3) := by decide +kernel
theorem dX4_tryRide_11 : decode cX4_tryRide 11 = .ok (.iconst 1, 1) := by decide +kernel
theorem dX4_tryRide_12 : decode cX4_tryRide 12 = .ok (.ireturn, 1) := by decide +kernel
theorem dX4_tryRide_13 : decode cX4_tryRide 13 = .ok (.aload_n 0, 1) := by decide +kernel
theorem dX4_tryRide_14 : decode cX4_tryRide 14 = .ok (.getfield 12, 3) := by decide +kernel
theorem dX4_tryRide_17 : decode cX4_tryRide 17 = .ok (.getfield 235, 3) := by decide +kernel
theorem dX4_tryRide_20 : decode cX4_tryRide 20 = .ok (.iload_n 1, 1) := by decide +kernel
theorem dX4_tryRide_21 : decode cX4_tryRide 21 = .ok (.aaload, 1) := by decide +kernel
theorem dX4_tryRide_22 : decode cX4_tryRide 22 = .ok (.astore_n 3, 1) := by decide +kernel
theorem dX4_tryRide_23 : decode cX4_tryRide 23 = .ok (.aload_n 0, 1) := by decide +kernel
theorem dX4_tryRide_24 : decode cX4_tryRide 24 = .ok (.getfield 12, 3) := by decide +kernel
theorem dX4_tryRide_27 : decode cX4_tryRide 27 = .ok (.aload_n 3, 1) := by decide +kernel
theorem dX4_tryRide_28 : decode cX4_tryRide 28 = .ok (.iload_n 2, 1) := by decide +kernel
theorem dX4_tryRide_29 : decode cX4_tryRide 29 = .ok (.invokevirtual 252, 3) := by decide +kernel
theorem dX4_tryRide_32 : decode cX4_tryRide 32 = .ok (.istore 4, 2) := by decide +kernel
theorem dX4_tryRide_34 : decode cX4_tryRide 34 = .ok (.iload 4, 2) := by decide +kernel
theorem dX4_tryRide_36 : decode cX4_tryRide 36 = .ok (.ifCond .eq 21, 3) := by decide +kernel
theorem dX4_tryRide_39 : decode cX4_tryRide 39 = .ok (.aload_n 0, 1) := by decide +kernel
theorem dX4_tryRide_40 : decode cX4_tryRide 40 = .ok (.iload 4, 2) := by decide +kernel
theorem dX4_tryRide_42 : decode cX4_tryRide 42 = .ok (.aload_n 0, 1) := by decide +kernel
theorem dX4_tryRide_43 : decode cX4_tryRide 43 = .ok (.getfield 12, 3) := by decide +kernel
theorem dX4_tryRide_46 : decode cX4_tryRide 46 = .ok (.aload_n 3, 1) := by decide +kernel
theorem dX4_tryRide_47 : decode cX4_tryRide 47 = .ok (.iload_n 2, 1) := by decide +kernel
theorem dX4_tryRide_48 : decode cX4_tryRide 48 = .ok (.iload 4, 2) := by decide +kernel
theorem dX4_tryRide_50 : decode cX4_tryRide 50 = .ok (.invokevirtual 428, 3) := by decide +kernel
theorem dX4_tryRide_53 : decode cX4_tryRide 53 = .ok (.invokevirtual 394, 3) := by decide +kernel
theorem dX4_tryRide_56 : decode cX4_tryRide 56 = .ok (.ireturn, 1) := by decide +kernel
theorem dX4_tryRide_57 : decode cX4_tryRide 57 = .ok (.aload_n 3, 1) := by decide +kernel
theorem dX4_tryRide_58 : decode cX4_tryRide 58 = .ok (.iload_n 2, 1) := by decide +kernel
theorem dX4_tryRide_59 : decode cX4_tryRide 59 = .ok (.invokevirtual 166, 3) := by decide +kernel
theorem dX4_tryRide_62 : decode cX4_tryRide 62 = .ok (.iconst 1, 1) := by decide +kernel
theorem dX4_tryRide_63 : decode cX4_tryRide 63 = .ok (.putfield 204, 3) := by decide +kernel
theorem dX4_tryRide_66 : decode cX4_tryRide 66 = .ok (.iload_n 2, 1) := by decide +kernel
theorem dX4_tryRide_67 : decode cX4_tryRide 67 = .ok (.ifCond .eq 19, 3) := by decide +kernel
theorem dX4_tryRide_70 : decode cX4_tryRide 70 = .ok (.aload_n 0, 1) := by decide +kernel
theorem dX4_tryRide_71 : decode cX4_tryRide 71 = .ok (.getfield 12, 3) := by decide +kernel
theorem dX4_tryRide_74 : decode cX4_tryRide 74 = .ok (.dup, 1) := by decide +kernel
theorem dX4_tryRide_75 : decode cX4_tryRide 75 = .ok (.getfield 249, 3) := by decide +kernel
theorem dX4_tryRide_78 : decode cX4_tryRide 78 = .ok (.iconst 1, 1) := by decide +kernel
theorem dX4_tryRide_79 : decode cX4_tryRide 79 = .ok (.iadd, 1) := by decide +kernel
theorem dX4_tryRide_80 : decode cX4_tryRide 80 = .ok (.putfield 249, 3) := by decide +kernel
theorem dX4_tryRide_83 : decode cX4_tryRide 83 = .ok (.goto 27, 3) := by decide +kernel
theorem dX4_tryRide_86 : decode cX4_tryRide 86 = .ok (.aload_n 0, 1) := by decide +kernel
theorem dX4_tryRide_87 : decode cX4_tryRide 87 = .ok (.getfield 12, 3) := by decide +kernel
theorem dX4_tryRide_90 : decode cX4_tryRide 90 = .ok (.dup, 1) := by decide +kernel
theorem dX4_tryRide_91 : decode cX4_tryRide 91 = .ok (.getfield 246, 3) := by decide +kernel
theorem dX4_tryRide_94 : decode cX4_tryRide 94 = .ok (.iconst 1, 1) := by decide +kernel
theorem dX4_tryRide_95 : decode cX4_tryRide 95 = .ok (.iadd, 1) := by decide +kernel
theorem dX4_tryRide_96 : decode cX4_tryRide 96 = .ok (.putfield 246, 3) := by decide +kernel
theorem dX4_tryRide_99 : decode cX4_tryRide 99 = .ok (.aload_n 3, 1) := by decide +kernel
theorem dX4_tryRide_100 : decode cX4_tryRide 100 = .ok (.aload_n 0, 1) := by decide +kernel
theorem dX4_tryRide_101 : decode cX4_tryRide 101 = .ok (.getfield 12, 3) := by decide +kernel
theorem dX4_tryRide_104 : decode cX4_tryRide 104 = .ok (.getfield 259, 3) := by decide +kernel
theorem dX4_tryRide_107 : decode cX4_tryRide 107 = .ok (.putfield 139, 3) := by decide +kernel
theorem dX4_tryRide_110 : decode cX4_tryRide 110 = .ok (.iconst 0, 1) := by decide +kernel
theorem dX4_tryRide_111 : decode cX4_tryRide 111 = .ok (.ireturn, 1) := by decide +kernel
theorem h9_X4_tryRide : yX4_tryRide.cls ≠ "java/lang/invoke/MethodHandle" ∧ yX4_tryRide.cls ≠ "java/lang/invoke/VarHandle" ∧ (parseMethodDescriptor yX4_tryRide.desc).map (fun d => d.parameters.length) = some 2 := by decide +kernel
noncomputable def F_X4_tryRide (a0 : Nat) (x1 : Int32) (x2 : Int32) (w : FW) : Option (Int32 × FW) :=
  fg (w.1 a0 = 5) inferInstance (fg (w.1 (gR w 400 a0 0) = 2) inferInstance ((F_X1_hasTicket (gR w 400 a0 0) x1 w).bind (fun r2 => (if r2 = 0 then some (1, w) else fg (w.1 (gR w 100 (gR w 400 a0 0) 0) = 14) inferInstance (fg (¬ (x1 < 0 ∨ w.2.1 (gR w 100 (gR w 400 a0 0) 0) ≤ Int32.toNatClampNeg x1)) inferInstance ((F_X1_hindrance (gR w 400 a0 0) (gR w 604 (gR w 100 (gR w 400 a0 0) 0) (Int32.toNatClampNeg x1)) x2 w).bind (fun r9 => (if r9 = 0 then fg (w.1 (gR w 604 (gR w 100 (gR w 400 a0 0) 0) (Int32.toNatClampNeg x1)) = 3) inferInstance ((F_X2_half (gR w 604 (gR w 100 (gR w 400 a0 0) 0) (Int32.toNatClampNeg x1)) x2 w).bind (fun r13 => fg (w.1 r13 = 1) inferInstance ((if x2 = 0 then some (0, (sI (sI (sI w 4 r13 0 1) 107 (gR (sI w 4 r13 0 1) 400 a0 0) 0 ((gI (sI w 4 r13 0 1) 107 (gR (sI w 4 r13 0 1) 400 a0 0) 0) + 1)) 205 (gR w 604 (gR w 100 (gR w 400 a0 0) 0) (Int32.toNatClampNeg x1)) 0 (gI (sI (sI w 4 r13 0 1) 107 (gR (sI w 4 r13 0 1) 400 a0 0) 0 ((gI (sI w 4 r13 0 1) 107 (gR (sI w 4 r13 0 1) 400 a0 0) 0) + 1)) 105 (gR (sI (sI w 4 r13 0 1) 107 (gR (sI w 4 r13 0 1) 400 a0 0) 0 ((gI (sI w 4 r13 0 1) 107 (gR (sI w 4 r13 0 1) 400 a0 0) 0) + 1)) 400 a0 0) 0))) else some (0, (sI (sI w 4 r13 0 1) 108 (gR (sI w 4 r13 0 1) 400 a0 0) 0 ((gI (sI w 4 r13 0 1) 108 (gR (sI w 4 r13 0 1) 400 a0 0) 0) + 1))))))) else (F_X1_hindranceDetail (gR w 400 a0 0) (gR w 604 (gR w 100 (gR w 400 a0 0) 0) (Int32.toNatClampNeg x1)) x2 r9 w).bind (fun r19 => (F_X4_refuse a0 r9 r19 w).bind (fun r22 => some (r22.1, r22.2)))))))))))
set_option maxHeartbeats 4000000 in
set_option maxRecDepth 100000 in
theorem c_X4_tryRide (l : Launch) (D : va_G) (cy : Nat → ClassId) (a0 : Nat) (x1 : Int32) (x2 : Int32) (w : FW) (r : Int32 × FW) (hF : F_X4_tryRide a0 x1 x2 w = some r) : fSpec l D cy yX4_tryRide cX4_tryRide 5 (some .int) { frames := 7, cells := 0, slots := 0, locals := 158 } [.ref a0, .int x1, .int x2] w r.2 (some (.int r.1)) := by
  refine f_begin (by decide +kernel) (Nat.le_of_ble_eq_true rfl) (fun X hC hEn => ?_)
  unfold F_X4_tryRide at hF
  show fAt X 0 0 5 w [(0, .ref a0), (1, .int x1), (2, .int x2)] [] 0
  refine f_aload_n hC dX4_tryRide_0 rfl 0 rfl ?_
  obtain ⟨g1, hF⟩ := fg_open hF
  refine f_getR hC 4 0 400 rfl (by decide) iX4 q_260 rfl rfl (fSm.k (fSm.rf w) g1) dX4_tryRide_1 ?_
  refine f_iload_n hC dX4_tryRide_4 rfl 1 rfl ?_
  obtain ⟨g4, hF⟩ := fg_open hF
  obtain ⟨r2, h3, hF⟩ := fb_open hF
  refine f_callVN hC [.int x1] (c_X1_hasTicket l D cy (gR w 400 a0 0) x1 w r2 h3) q_408 q_74 q_405 q_407 q_2 h9_X1_hasTicket rfl (fSm.k (fSm.rf w) g4) ⟨Nat.le_of_ble_eq_true rfl, Nat.le_of_ble_eq_true rfl⟩ ⟨Nat.le_of_ble_eq_true rfl, Nat.le_of_ble_eq_true rfl⟩ (Nat.le_of_ble_eq_true rfl) rfl dX4_tryRide_5 (fun e5 => ?_)
  refine f_if_ne hC 13 dX4_tryRide_8 (by decide) (fun c6 => ?_) (fun c6 => ?_)
  · replace hF := fi_neg hF c6
    refine f_aload_n hC dX4_tryRide_13 rfl 0 rfl ?_
    refine f_getR hC 4 0 400 rfl (by decide) iX4 q_260 rfl rfl (fSm.k (fSm.rf w) g1) dX4_tryRide_14 ?_
    refine f_getRN hC 1 0 100 rfl (by decide) iX1 q_217 rfl rfl (fSm.k (fSm.rf w) g4) dX4_tryRide_17 ?_
    refine f_iload_n hC dX4_tryRide_20 rfl 1 rfl ?_
    obtain ⟨g7, hF⟩ := fg_open hF
    obtain ⟨g8, hF⟩ := fg_open hF
    refine f_aald1 hC (fSm.k (fSm.rf w) g7) (fSm.v (fSm.rf w) g8) dX4_tryRide_21 ?_
    refine f_astore_n (L' := [(3, .ref (gR w 604 (gR w 100 (gR w 400 a0 0) 0) (Int32.toNatClampNeg x1))), (0, .ref a0), (1, .int x1), (2, .int x2)]) hC dX4_tryRide_22 rfl (by decide) rfl ?_
    refine f_aload_n hC dX4_tryRide_23 rfl 1 rfl ?_
    refine f_getR hC 4 0 400 rfl (by decide) iX4 q_260 rfl rfl (fSm.k (fSm.rf w) g1) dX4_tryRide_24 ?_
    refine f_aload_n hC dX4_tryRide_27 rfl 0 rfl ?_
    refine f_iload_n hC dX4_tryRide_28 rfl 3 rfl ?_
    obtain ⟨r9, h10, hF⟩ := fb_open hF
    refine f_callVN hC [.ref (gR w 604 (gR w 100 (gR w 400 a0 0) 0) (Int32.toNatClampNeg x1)), .int x2] (c_X1_hindrance l D cy (gR w 400 a0 0) (gR w 604 (gR w 100 (gR w 400 a0 0) 0) (Int32.toNatClampNeg x1)) x2 w r9 h10) q_558 q_74 q_555 q_557 q_11 h9_X1_hindrance rfl (fSm.k (fSm.rf w) g4) ⟨Nat.le_of_ble_eq_true rfl, Nat.le_of_ble_eq_true rfl⟩ ⟨Nat.le_of_ble_eq_true rfl, Nat.le_of_ble_eq_true rfl⟩ (Nat.le_of_ble_eq_true rfl) rfl dX4_tryRide_29 (fun e11 => ?_)
    refine f_istore (L' := [(4, .int r9), (3, .ref (gR w 604 (gR w 100 (gR w 400 a0 0) 0) (Int32.toNatClampNeg x1))), (0, .ref a0), (1, .int x1), (2, .int x2)]) hC dX4_tryRide_32 (by decide) rfl ?_
    refine f_iload hC dX4_tryRide_34 0 rfl ?_
    refine f_if_eq hC 57 dX4_tryRide_36 (by decide) (fun c12 => ?_) (fun c12 => ?_)
    · replace hF := fi_pos hF c12
      refine f_aload_n hC dX4_tryRide_57 rfl 1 rfl ?_
      refine f_iload_n hC dX4_tryRide_58 rfl 4 rfl ?_
      obtain ⟨g15, hF⟩ := fg_open hF
      obtain ⟨r13, h14, hF⟩ := fb_open hF
      refine f_callVN hC [.int x2] (c_X2_half l D cy (gR w 604 (gR w 100 (gR w 400 a0 0) 0) (Int32.toNatClampNeg x1)) x2 w r13 h14) q_425 q_76 q_422 q_424 q_3 h9_X2_half rfl (fSm.k (fSm.rf w) g15) ⟨Nat.le_of_ble_eq_true rfl, Nat.le_of_ble_eq_true rfl⟩ ⟨Nat.le_of_ble_eq_true rfl, Nat.le_of_ble_eq_true rfl⟩ (Nat.le_of_ble_eq_true rfl) rfl dX4_tryRide_59 (fun e16 => ?_)
      refine f_iconst (v := 1) hC dX4_tryRide_62 (by decide) ?_
      obtain ⟨g17, hF⟩ := fg_open hF
      refine f_putIN hC 0 4 4 rfl (by decide) iX0 tyX0 tyX0_ok nmX0 q_161 rfl rfl rfl (nar_z (by decide)) (fit_z (by decide)) (fSm.k (fSm.rf w) g17) dX4_tryRide_63 ?_
      refine f_iload_n hC dX4_tryRide_66 rfl 4 rfl ?_
      refine f_if_eq hC 86 dX4_tryRide_67 (by decide) (fun c18 => ?_) (fun c18 => ?_)
      · replace hF := fi_pos hF c18
        refine f_aload_n hC dX4_tryRide_86 rfl 2 rfl ?_
        refine f_getR hC 4 0 400 rfl (by decide) iX4 q_260 rfl rfl (fSm.k (fSm.rf w) g1) dX4_tryRide_87 ?_
        refine f_dup hC dX4_tryRide_90 rfl ?_
        refine f_getIN hC 1 7 107 rfl (by decide) iX1 q_231 rfl rfl (fSm.k (fSm.rf w) g4) dX4_tryRide_91 ?_
        refine f_iconst (v := 1) hC dX4_tryRide_94 (by decide) ?_
        refine f_iadd hC dX4_tryRide_95 ?_
        refine f_putIN hC 1 7 107 rfl (by decide) iX1 tyX1 tyX1_ok nmX1 q_231 rfl rfl rfl rfl rfl (fSm.k (fSm.rf w) g4) dX4_tryRide_96 ?_
        refine f_aload_n hC dX4_tryRide_99 rfl 1 rfl ?_
        refine f_aload_n hC dX4_tryRide_100 rfl 2 rfl ?_
        refine f_getR hC 4 0 400 rfl (by decide) iX4 q_260 rfl rfl (fSm.k (fSm.rf w) g1) dX4_tryRide_101 ?_
        refine f_getIN hC 1 5 105 rfl (by decide) iX1 q_227 rfl rfl (fSm.k (fSm.rf w) g4) dX4_tryRide_104 ?_
        refine f_putIN hC 2 5 205 rfl (by decide) iX2 tyX2 tyX2_ok nmX2 q_191 rfl rfl rfl rfl rfl (fSm.k (fSm.rf w) g15) dX4_tryRide_107 ?_
        refine f_iconst (v := 0) hC dX4_tryRide_110 (by decide) ?_
        obtain rfl := Option.some.inj hF
        exact f_iret hC hEn (fSm.rf w) dX4_tryRide_111
      · replace hF := fi_neg hF c18
        refine f_aload_n hC dX4_tryRide_70 rfl 2 rfl ?_
        refine f_getR hC 4 0 400 rfl (by decide) iX4 q_260 rfl rfl (fSm.k (fSm.rf w) g1) dX4_tryRide_71 ?_
        refine f_dup hC dX4_tryRide_74 rfl ?_
        refine f_getIN hC 1 8 108 rfl (by decide) iX1 q_233 rfl rfl (fSm.k (fSm.rf w) g4) dX4_tryRide_75 ?_
        refine f_iconst (v := 1) hC dX4_tryRide_78 (by decide) ?_
        refine f_iadd hC dX4_tryRide_79 ?_
        refine f_putIN hC 1 8 108 rfl (by decide) iX1 tyX1 tyX1_ok nmX1 q_233 rfl rfl rfl rfl rfl (fSm.k (fSm.rf w) g4) dX4_tryRide_80 ?_
        refine f_goto hC 110 dX4_tryRide_83 (by decide) ?_
        refine f_iconst (v := 0) hC dX4_tryRide_110 (by decide) ?_
        obtain rfl := Option.some.inj hF
        exact f_iret hC hEn (fSm.rf w) dX4_tryRide_111
    · replace hF := fi_neg hF c12
      refine f_aload_n hC dX4_tryRide_39 rfl 2 rfl ?_
      refine f_iload hC dX4_tryRide_40 0 rfl ?_
      refine f_aload_n hC dX4_tryRide_42 rfl 2 rfl ?_
      refine f_getR hC 4 0 400 rfl (by decide) iX4 q_260 rfl rfl (fSm.k (fSm.rf w) g1) dX4_tryRide_43 ?_
      refine f_aload_n hC dX4_tryRide_46 rfl 1 rfl ?_
      refine f_iload_n hC dX4_tryRide_47 rfl 4 rfl ?_
      refine f_iload hC dX4_tryRide_48 0 rfl ?_
      obtain ⟨r19, h20, hF⟩ := fb_open hF
      refine f_callVN hC [.ref (gR w 604 (gR w 100 (gR w 400 a0 0) 0) (Int32.toNatClampNeg x1)), .int x2, .int r9] (c_X1_hindranceDetail l D cy (gR w 400 a0 0) (gR w 604 (gR w 100 (gR w 400 a0 0) 0) (Int32.toNatClampNeg x1)) x2 r9 w r19 h20) q_1025 q_74 q_1022 q_1024 q_46 h9_X1_hindranceDetail rfl (fSm.k (fSm.rf w) g4) ⟨Nat.le_of_ble_eq_true rfl, Nat.le_of_ble_eq_true rfl⟩ ⟨Nat.le_of_ble_eq_true rfl, Nat.le_of_ble_eq_true rfl⟩ (Nat.le_of_ble_eq_true rfl) rfl dX4_tryRide_50 (fun e21 => ?_)
      obtain ⟨r22, h23, hF⟩ := fb_open hF
      refine f_callV hC [.int r9, .int r19] (c_X4_refuse l D cy a0 r9 r19 w r22 h23) q_984 q_73 q_981 q_983 q_37 h9_X4_refuse rfl (fSm.k (fSm.rf w) g1) ⟨Nat.le_of_ble_eq_true rfl, Nat.le_of_ble_eq_true rfl⟩ ⟨Nat.le_of_ble_eq_true rfl, Nat.le_of_ble_eq_true rfl⟩ (Nat.le_of_ble_eq_true rfl) rfl dX4_tryRide_53 (fun e24 => ?_)
      obtain rfl := Option.some.inj hF
      exact f_iret hC hEn (fSm.tr e24 (fSm.rf w)) dX4_tryRide_56
  · replace hF := fi_pos hF c6
    refine f_iconst (v := 1) hC dX4_tryRide_11 (by decide) ?_
    obtain rfl := Option.some.inj hF
    exact f_iret hC hEn (fSm.rf w) dX4_tryRide_12
theorem dX4_ride_0 : decode cX4_ride 0 = .ok (.aload_n 0, 1) := by decide +kernel
theorem dX4_ride_1 : decode cX4_ride 1 = .ok (.invokevirtual 72, 3) := by decide +kernel
theorem dX4_ride_4 : decode cX4_ride 4 = .ok (.aload_n 0, 1) := by decide +kernel
theorem dX4_ride_5 : decode cX4_ride 5 = .ok (.aload_n 0, 1) := by decide +kernel
theorem dX4_ride_6 : decode cX4_ride 6 = .ok (.iload_n 1, 1) := by decide +kernel
theorem dX4_ride_7 : decode cX4_ride 7 = .ok (.iload_n 2, 1) := by decide +kernel
theorem dX4_ride_8 : decode cX4_ride 8 = .ok (.invokevirtual 243, 3) := by decide +kernel
theorem dX4_ride_11 : decode cX4_ride 11 = .ok (.invokevirtual 79, 3) := by decide +kernel
theorem dX4_ride_14 : decode cX4_ride 14 = .ok (.aload_n 0, 1) := by decide +kernel
theorem dX4_ride_15 : decode cX4_ride 15 = .ok (.getfield 12, 3) := by decide +kernel
theorem dX4_ride_18 : decode cX4_ride 18 = .ok (.getfield 246, 3) := by decide +kernel
theorem dX4_ride_21 : decode cX4_ride 21 = .ok (.aload_n 0, 1) := by decide +kernel
theorem dX4_ride_22 : decode cX4_ride 22 = .ok (.getfield 12, 3) := by decide +kernel
theorem dX4_ride_25 : decode cX4_ride 25 = .ok (.getfield 249, 3) := by decide +kernel
theorem dX4_ride_28 : decode cX4_ride 28 = .ok (.iadd, 1) := by decide +kernel
theorem dX4_ride_29 : decode cX4_ride 29 = .ok (.ireturn, 1) := by decide +kernel
theorem h9_X4_ride : yX4_ride.cls ≠ "java/lang/invoke/MethodHandle" ∧ yX4_ride.cls ≠ "java/lang/invoke/VarHandle" ∧ (parseMethodDescriptor yX4_ride.desc).map (fun d => d.parameters.length) = some 2 := by decide +kernel
noncomputable def F_X4_ride (a0 : Nat) (x1 : Int32) (x2 : Int32) (w : FW) : Option ((Int32 ⊕ Nat) × FW) :=
  fg (w.1 a0 = 5) inferInstance ((F_X4_begin a0 w).bind (fun r1 => (F_X4_tryRide a0 x1 x2 r1).bind (fun r5 => (F_X4_settle a0 r5.1 r5.2).bind (fun r8 => fse r8.1 (fun v11 => fg (w.1 (gR r8.2 400 a0 0) = 2) inferInstance (some ((.inl ((gI r8.2 107 (gR r8.2 400 a0 0) 0) + (gI r8.2 108 (gR r8.2 400 a0 0) 0))), r8.2))) (fun x12 => some (.inr x12, r8.2))))))
set_option maxHeartbeats 4000000 in
set_option maxRecDepth 100000 in
theorem c_X4_ride (l : Launch) (D : va_G) (cy : Nat → ClassId) (a0 : Nat) (x1 : Int32) (x2 : Int32) (w : FW) (r : (Int32 ⊕ Nat) × FW) (hF : F_X4_ride a0 x1 x2 w = some r) : fSpecX l D cy yX4_ride cX4_ride 3 (some .int) { frames := 8, cells := 1, slots := 6, locals := 182 } [.ref a0, .int x1, .int x2] w r.2 (fOI r.1) := by
  refine f_beginX (by decide +kernel) (Nat.le_of_ble_eq_true rfl) (fun X hC hEn => ?_)
  have hst := f_st hC hEn
  unfold F_X4_ride at hF
  show fAt X 0 0 3 w [(0, .ref a0), (1, .int x1), (2, .int x2)] [] 0
  refine f_aload_n hC dX4_ride_0 rfl 0 rfl ?_
  obtain ⟨g3, hF⟩ := fg_open hF
  obtain ⟨r1, h2, hF⟩ := fb_open hF
  refine f_callV hC [] (c_X4_begin l D cy a0 w r1 h2) q_932 q_73 q_929 q_931 q_25 h9_X4_begin rfl (fSm.k (fSm.rf w) g3) ⟨Nat.le_of_ble_eq_true rfl, Nat.le_of_ble_eq_true rfl⟩ ⟨Nat.le_of_ble_eq_true rfl, Nat.le_of_ble_eq_true rfl⟩ (Nat.le_of_ble_eq_true rfl) rfl dX4_ride_1 (fun e4 => ?_)
  refine f_aload_n hC dX4_ride_4 rfl 0 rfl ?_
  refine f_aload_n hC dX4_ride_5 rfl 0 rfl ?_
  refine f_iload_n hC dX4_ride_6 rfl 1 rfl ?_
  refine f_iload_n hC dX4_ride_7 rfl 2 rfl ?_
  obtain ⟨r5, h6, hF⟩ := fb_open hF
  refine f_callV hC [.int x1, .int x2] (c_X4_tryRide l D cy a0 x1 x2 r1 r5 h6) q_1021 q_73 q_1018 q_1020 q_45 h9_X4_tryRide rfl (fSm.k (fSm.tr e4 (fSm.rf w)) g3) ⟨Nat.le_of_ble_eq_true rfl, Nat.le_of_ble_eq_true rfl⟩ ⟨Nat.le_of_ble_eq_true rfl, Nat.le_of_ble_eq_true rfl⟩ (Nat.le_of_ble_eq_true rfl) rfl dX4_ride_8 (fun e7 => ?_)
  obtain ⟨r8, h9, hF⟩ := fb_open hF
  obtain ⟨o14, w13⟩ := r8
  rcases o14 with v11 | x12
  · refine f_callVR hC [.int r5.1] hst (c_X4_settle l D cy a0 r5.1 r5.2 (.inl v11, w13) h9) q_1082 q_73 q_1079 q_1081 q_54 h9_X4_settle rfl (fSm.k (fSm.tr e7 (fSm.tr e4 (fSm.rf w))) g3) ⟨Nat.le_of_ble_eq_true rfl, Nat.le_of_ble_eq_true rfl⟩ ⟨Nat.le_of_ble_eq_true rfl, Nat.le_of_ble_eq_true rfl⟩ (Nat.le_of_ble_eq_true rfl) rfl dX4_ride_11 (fun e10 => ?_)
    refine f_aload_n hC dX4_ride_14 rfl 0 rfl ?_
    refine f_getR hC 4 0 400 rfl (by decide) iX4 q_260 rfl rfl (fSm.k (fSm.tr e10 (fSm.tr e7 (fSm.tr e4 (fSm.rf w)))) g3) dX4_ride_15 ?_
    obtain ⟨g15, hF⟩ := fg_open hF
    refine f_getIN hC 1 7 107 rfl (by decide) iX1 q_231 rfl rfl (fSm.k (fSm.tr e10 (fSm.tr e7 (fSm.tr e4 (fSm.rf w)))) g15) dX4_ride_18 ?_
    refine f_aload_n hC dX4_ride_21 rfl 0 rfl ?_
    refine f_getR hC 4 0 400 rfl (by decide) iX4 q_260 rfl rfl (fSm.k (fSm.tr e10 (fSm.tr e7 (fSm.tr e4 (fSm.rf w)))) g3) dX4_ride_22 ?_
    refine f_getIN hC 1 8 108 rfl (by decide) iX1 q_233 rfl rfl (fSm.k (fSm.tr e10 (fSm.tr e7 (fSm.tr e4 (fSm.rf w)))) g15) dX4_ride_25 ?_
    refine f_iadd hC dX4_ride_28 ?_
    obtain rfl := Option.some.inj hF
    exact f_iretX hC hEn (fSm.tr e10 (fSm.tr e7 (fSm.tr e4 (fSm.rf w)))) dX4_ride_29
  · obtain rfl := Option.some.inj hF
    exact f_callVT hC [.int r5.1] hEn (fSm.tr e7 (fSm.tr e4 (fSm.rf w))) (Nat.le_of_ble_eq_true rfl) (Nat.le_of_ble_eq_true rfl) (c_X4_settle l D cy a0 r5.1 r5.2 (.inr x12, w13) h9) q_1082 q_73 q_1079 q_1081 q_54 h9_X4_settle rfl (fSm.k (fSm.tr e7 (fSm.tr e4 (fSm.rf w))) g3) ⟨Nat.le_of_ble_eq_true rfl, Nat.le_of_ble_eq_true rfl⟩ ⟨Nat.le_of_ble_eq_true rfl, Nat.le_of_ble_eq_true rfl⟩ (Nat.le_of_ble_eq_true rfl) rfl dX4_ride_11
theorem dX4_hinders_0 : decode cX4_hinders 0 = .ok (.aload_n 0, 1) := by decide +kernel
theorem dX4_hinders_1 : decode cX4_hinders 1 = .ok (.getfield 12, 3) := by decide +kernel
theorem dX4_hinders_4 : decode cX4_hinders 4 = .ok (.aload_n 0, 1) := by decide +kernel
theorem dX4_hinders_5 : decode cX4_hinders 5 = .ok (.iload_n 1, 1) := by decide +kernel
theorem dX4_hinders_6 : decode cX4_hinders 6 = .ok (.invokevirtual 115, 3) := by decide +kernel
theorem dX4_hinders_9 : decode cX4_hinders 9 = .ok (.iload_n 2, 1) := by decide +kernel
theorem dX4_hinders_10 : decode cX4_hinders 10 = .ok (.invokevirtual 252, 3) := by decide +kernel
theorem dX4_hinders_13 : decode cX4_hinders 13 = .ok (.ireturn, 1) := by decide +kernel
theorem h9_X4_hinders : yX4_hinders.cls ≠ "java/lang/invoke/MethodHandle" ∧ yX4_hinders.cls ≠ "java/lang/invoke/VarHandle" ∧ (parseMethodDescriptor yX4_hinders.desc).map (fun d => d.parameters.length) = some 2 := by decide +kernel
noncomputable def F_X4_hinders (a0 : Nat) (x1 : Int32) (x2 : Int32) (w : FW) : Option (Int32 ⊕ Nat) :=
  fg (w.1 a0 = 5) inferInstance ((F_X4_existing a0 x1 w).bind (fun r2 => fse r2 (fun v5 => fg (w.1 (gR w 400 a0 0) = 2) inferInstance ((F_X1_hindrance (gR w 400 a0 0) v5 x2 w).bind (fun r8 => some (.inl r8)))) (fun x6 => some (.inr x6))))
set_option maxHeartbeats 4000000 in
set_option maxRecDepth 100000 in
theorem c_X4_hinders (l : Launch) (D : va_G) (cy : Nat → ClassId) (a0 : Nat) (x1 : Int32) (x2 : Int32) (w : FW) (r : Int32 ⊕ Nat) (hF : F_X4_hinders a0 x1 x2 w = some r) : fSpecX l D cy yX4_hinders cX4_hinders 3 (some .int) { frames := 7, cells := 1, slots := 6, locals := 156 } [.ref a0, .int x1, .int x2] w w (fOI r) := by
  refine f_beginX (by decide +kernel) (Nat.le_of_ble_eq_true rfl) (fun X hC hEn => ?_)
  have hst := f_st hC hEn
  unfold F_X4_hinders at hF
  show fAt X 0 0 3 w [(0, .ref a0), (1, .int x1), (2, .int x2)] [] 0
  refine f_aload_n hC dX4_hinders_0 rfl 0 rfl ?_
  obtain ⟨g1, hF⟩ := fg_open hF
  refine f_getR hC 4 0 400 rfl (by decide) iX4 q_260 rfl rfl (fSm.k (fSm.rf w) g1) dX4_hinders_1 ?_
  refine f_aload_n hC dX4_hinders_4 rfl 0 rfl ?_
  refine f_iload_n hC dX4_hinders_5 rfl 1 rfl ?_
  obtain ⟨r2, h3, hF⟩ := fb_open hF
  rcases r2 with v5 | x6
  · refine f_callVR hC [.int x1] hst (c_X4_existing l D cy a0 x1 w (.inl v5) h3) q_404 q_73 q_401 q_403 q_1 h9_X4_existing rfl (fSm.k (fSm.rf w) g1) ⟨Nat.le_of_ble_eq_true rfl, Nat.le_of_ble_eq_true rfl⟩ ⟨Nat.le_of_ble_eq_true rfl, Nat.le_of_ble_eq_true rfl⟩ (Nat.le_of_ble_eq_true rfl) rfl dX4_hinders_6 (fun e4 => ?_)
    refine f_iload_n hC dX4_hinders_9 rfl 2 rfl ?_
    obtain ⟨g10, hF⟩ := fg_open hF
    obtain ⟨r8, h9, hF⟩ := fb_open hF
    refine f_callVN hC [.ref v5, .int x2] (c_X1_hindrance l D cy (gR w 400 a0 0) v5 x2 w r8 h9) q_558 q_74 q_555 q_557 q_11 h9_X1_hindrance rfl (fSm.k (fSm.rf w) g10) ⟨Nat.le_of_ble_eq_true rfl, Nat.le_of_ble_eq_true rfl⟩ ⟨Nat.le_of_ble_eq_true rfl, Nat.le_of_ble_eq_true rfl⟩ (Nat.le_of_ble_eq_true rfl) rfl dX4_hinders_10 (fun e11 => ?_)
    obtain rfl := Option.some.inj hF
    exact f_iretX hC hEn (fSm.rf w) dX4_hinders_13
  · obtain rfl := Option.some.inj hF
    exact f_callVT hC [.int x1] hEn (fSm.rf w) (Nat.le_of_ble_eq_true rfl) (Nat.le_of_ble_eq_true rfl) (c_X4_existing l D cy a0 x1 w (.inr x6) h3) q_404 q_73 q_401 q_403 q_1 h9_X4_existing rfl (fSm.k (fSm.rf w) g1) ⟨Nat.le_of_ble_eq_true rfl, Nat.le_of_ble_eq_true rfl⟩ ⟨Nat.le_of_ble_eq_true rfl, Nat.le_of_ble_eq_true rfl⟩ (Nat.le_of_ble_eq_true rfl) rfl dX4_hinders_6
theorem dX4_letDayGoBy_0 : decode cX4_letDayGoBy 0 = .ok (.aload_n 0, 1) := by decide +kernel
theorem dX4_letDayGoBy_1 : decode cX4_letDayGoBy 1 = .ok (.getfield 12, 3) := by decide +kernel
theorem dX4_letDayGoBy_4 : decode cX4_letDayGoBy 4 = .ok (.dup, 1) := by decide +kernel
theorem dX4_letDayGoBy_5 : decode cX4_letDayGoBy 5 = .ok (.getfield 259, 3) := by decide +kernel
theorem dX4_letDayGoBy_8 : decode cX4_letDayGoBy 8 = .ok (.iconst 1, 1) := by decide +kernel
theorem dX4_letDayGoBy_9 : decode cX4_letDayGoBy 9 = .ok (.iadd, 1) := by decide +kernel
theorem dX4_letDayGoBy_10 : decode cX4_letDayGoBy 10 = .ok (.putfield 259, 3) := by decide +kernel
theorem dX4_letDayGoBy_13 : decode cX4_letDayGoBy 13 = .ok (.iconst 0, 1) := by decide +kernel
theorem dX4_letDayGoBy_14 : decode cX4_letDayGoBy 14 = .ok (.ireturn, 1) := by decide +kernel
theorem h9_X4_letDayGoBy : yX4_letDayGoBy.cls ≠ "java/lang/invoke/MethodHandle" ∧ yX4_letDayGoBy.cls ≠ "java/lang/invoke/VarHandle" ∧ (parseMethodDescriptor yX4_letDayGoBy.desc).map (fun d => d.parameters.length) = some 0 := by decide +kernel
noncomputable def F_X4_letDayGoBy (a0 : Nat) (w : FW) : Option (Int32 × FW) :=
  fg (w.1 a0 = 5) inferInstance (fg (w.1 (gR w 400 a0 0) = 2) inferInstance (some (0, (sI w 105 (gR w 400 a0 0) 0 ((gI w 105 (gR w 400 a0 0) 0) + 1)))))
set_option maxHeartbeats 4000000 in
set_option maxRecDepth 100000 in
theorem c_X4_letDayGoBy (l : Launch) (D : va_G) (cy : Nat → ClassId) (a0 : Nat) (w : FW) (r : Int32 × FW) (hF : F_X4_letDayGoBy a0 w = some r) : fSpec l D cy yX4_letDayGoBy cX4_letDayGoBy 1 (some .int) { frames := 0, cells := 0, slots := 0, locals := 0 } [.ref a0] w r.2 (some (.int r.1)) := by
  refine f_begin (by decide +kernel) (Nat.le_of_ble_eq_true rfl) (fun X hC hEn => ?_)
  unfold F_X4_letDayGoBy at hF
  show fAt X 0 0 1 w [(0, .ref a0)] [] 0
  refine f_aload_n hC dX4_letDayGoBy_0 rfl 0 rfl ?_
  obtain ⟨g1, hF⟩ := fg_open hF
  refine f_getR hC 4 0 400 rfl (by decide) iX4 q_260 rfl rfl (fSm.k (fSm.rf w) g1) dX4_letDayGoBy_1 ?_
  refine f_dup hC dX4_letDayGoBy_4 rfl ?_
  obtain ⟨g2, hF⟩ := fg_open hF
  refine f_getIN hC 1 5 105 rfl (by decide) iX1 q_227 rfl rfl (fSm.k (fSm.rf w) g2) dX4_letDayGoBy_5 ?_
  refine f_iconst (v := 1) hC dX4_letDayGoBy_8 (by decide) ?_
  refine f_iadd hC dX4_letDayGoBy_9 ?_
  refine f_putIN hC 1 5 105 rfl (by decide) iX1 tyX1 tyX1_ok nmX1 q_227 rfl rfl rfl rfl rfl (fSm.k (fSm.rf w) g2) dX4_letDayGoBy_10 ?_
  refine f_iconst (v := 0) hC dX4_letDayGoBy_13 (by decide) ?_
  obtain rfl := Option.some.inj hF
  exact f_iret hC hEn (fSm.rf w) dX4_letDayGoBy_14
theorem dX4_day_0 : decode cX4_day 0 = .ok (.aload_n 0, 1) := by decide +kernel
theorem dX4_day_1 : decode cX4_day 1 = .ok (.invokevirtual 72, 3) := by decide +kernel
theorem dX4_day_4 : decode cX4_day 4 = .ok (.aload_n 0, 1) := by decide +kernel
theorem dX4_day_5 : decode cX4_day 5 = .ok (.aload_n 0, 1) := by decide +kernel
theorem dX4_day_6 : decode cX4_day 6 = .ok (.invokevirtual 256, 3) := by decide +kernel
theorem dX4_day_9 : decode cX4_day 9 = .ok (.invokevirtual 79, 3) := by decide +kernel
theorem dX4_day_12 : decode cX4_day 12 = .ok (.aload_n 0, 1) := by decide +kernel
theorem dX4_day_13 : decode cX4_day 13 = .ok (.getfield 12, 3) := by decide +kernel
theorem dX4_day_16 : decode cX4_day 16 = .ok (.getfield 259, 3) := by decide +kernel
theorem dX4_day_19 : decode cX4_day 19 = .ok (.ireturn, 1) := by decide +kernel
theorem h9_X4_day : yX4_day.cls ≠ "java/lang/invoke/MethodHandle" ∧ yX4_day.cls ≠ "java/lang/invoke/VarHandle" ∧ (parseMethodDescriptor yX4_day.desc).map (fun d => d.parameters.length) = some 0 := by decide +kernel
noncomputable def F_X4_day (a0 : Nat) (w : FW) : Option ((Int32 ⊕ Nat) × FW) :=
  fg (w.1 a0 = 5) inferInstance ((F_X4_begin a0 w).bind (fun r1 => (F_X4_letDayGoBy a0 r1).bind (fun r5 => (F_X4_settle a0 r5.1 r5.2).bind (fun r8 => fse r8.1 (fun v11 => fg (w.1 (gR r8.2 400 a0 0) = 2) inferInstance (some ((.inl (gI r8.2 105 (gR r8.2 400 a0 0) 0)), r8.2))) (fun x12 => some (.inr x12, r8.2))))))
set_option maxHeartbeats 4000000 in
set_option maxRecDepth 100000 in
theorem c_X4_day (l : Launch) (D : va_G) (cy : Nat → ClassId) (a0 : Nat) (w : FW) (r : (Int32 ⊕ Nat) × FW) (hF : F_X4_day a0 w = some r) : fSpecX l D cy yX4_day cX4_day 1 (some .int) { frames := 7, cells := 1, slots := 6, locals := 121 } [.ref a0] w r.2 (fOI r.1) := by
  refine f_beginX (by decide +kernel) (Nat.le_of_ble_eq_true rfl) (fun X hC hEn => ?_)
  have hst := f_st hC hEn
  unfold F_X4_day at hF
  show fAt X 0 0 1 w [(0, .ref a0)] [] 0
  refine f_aload_n hC dX4_day_0 rfl 0 rfl ?_
  obtain ⟨g3, hF⟩ := fg_open hF
  obtain ⟨r1, h2, hF⟩ := fb_open hF
  refine f_callV hC [] (c_X4_begin l D cy a0 w r1 h2) q_932 q_73 q_929 q_931 q_25 h9_X4_begin rfl (fSm.k (fSm.rf w) g3) ⟨Nat.le_of_ble_eq_true rfl, Nat.le_of_ble_eq_true rfl⟩ ⟨Nat.le_of_ble_eq_true rfl, Nat.le_of_ble_eq_true rfl⟩ (Nat.le_of_ble_eq_true rfl) rfl dX4_day_1 (fun e4 => ?_)
  refine f_aload_n hC dX4_day_4 rfl 0 rfl ?_
  refine f_aload_n hC dX4_day_5 rfl 0 rfl ?_
  obtain ⟨r5, h6, hF⟩ := fb_open hF
  refine f_callV hC [] (c_X4_letDayGoBy l D cy a0 r1 r5 h6) q_1047 q_73 q_1044 q_1046 q_51 h9_X4_letDayGoBy rfl (fSm.k (fSm.tr e4 (fSm.rf w)) g3) ⟨Nat.le_of_ble_eq_true rfl, Nat.le_of_ble_eq_true rfl⟩ ⟨Nat.le_of_ble_eq_true rfl, Nat.le_of_ble_eq_true rfl⟩ (Nat.le_of_ble_eq_true rfl) rfl dX4_day_6 (fun e7 => ?_)
  obtain ⟨r8, h9, hF⟩ := fb_open hF
  obtain ⟨o14, w13⟩ := r8
  rcases o14 with v11 | x12
  · refine f_callVR hC [.int r5.1] hst (c_X4_settle l D cy a0 r5.1 r5.2 (.inl v11, w13) h9) q_1082 q_73 q_1079 q_1081 q_54 h9_X4_settle rfl (fSm.k (fSm.tr e7 (fSm.tr e4 (fSm.rf w))) g3) ⟨Nat.le_of_ble_eq_true rfl, Nat.le_of_ble_eq_true rfl⟩ ⟨Nat.le_of_ble_eq_true rfl, Nat.le_of_ble_eq_true rfl⟩ (Nat.le_of_ble_eq_true rfl) rfl dX4_day_9 (fun e10 => ?_)
    refine f_aload_n hC dX4_day_12 rfl 0 rfl ?_
    refine f_getR hC 4 0 400 rfl (by decide) iX4 q_260 rfl rfl (fSm.k (fSm.tr e10 (fSm.tr e7 (fSm.tr e4 (fSm.rf w)))) g3) dX4_day_13 ?_
    obtain ⟨g15, hF⟩ := fg_open hF
    refine f_getIN hC 1 5 105 rfl (by decide) iX1 q_227 rfl rfl (fSm.k (fSm.tr e10 (fSm.tr e7 (fSm.tr e4 (fSm.rf w)))) g15) dX4_day_16 ?_
    obtain rfl := Option.some.inj hF
    exact f_iretX hC hEn (fSm.tr e10 (fSm.tr e7 (fSm.tr e4 (fSm.rf w)))) dX4_day_19
  · obtain rfl := Option.some.inj hF
    exact f_callVT hC [.int r5.1] hEn (fSm.tr e7 (fSm.tr e4 (fSm.rf w))) (Nat.le_of_ble_eq_true rfl) (Nat.le_of_ble_eq_true rfl) (c_X4_settle l D cy a0 r5.1 r5.2 (.inr x12, w13) h9) q_1082 q_73 q_1079 q_1081 q_54 h9_X4_settle rfl (fSm.k (fSm.tr e7 (fSm.tr e4 (fSm.rf w))) g3) ⟨Nat.le_of_ble_eq_true rfl, Nat.le_of_ble_eq_true rfl⟩ ⟨Nat.le_of_ble_eq_true rfl, Nat.le_of_ble_eq_true rfl⟩ (Nat.le_of_ble_eq_true rfl) rfl dX4_day_9
theorem dX4_daysLeft_0 : decode cX4_daysLeft 0 = .ok (.aload_n 0, 1) := by decide +kernel
theorem dX4_daysLeft_1 : decode cX4_daysLeft 1 = .ok (.iload_n 1, 1) := by decide +kernel
theorem dX4_daysLeft_2 : decode cX4_daysLeft 2 = .ok (.invokevirtual 115, 3) := by decide +kernel
theorem dX4_daysLeft_5 : decode cX4_daysLeft 5 = .ok (.astore_n 2, 1) := by decide +kernel
theorem dX4_daysLeft_6 : decode cX4_daysLeft 6 = .ok (.aload_n 2, 1) := by decide +kernel
theorem dX4_daysLeft_7 : decode cX4_daysLeft 7 = .ok (.getfield 262, 3) := by decide +kernel
theorem dX4_daysLeft_10 : decode cX4_daysLeft 10 = .ok (.getfield 204, 3) := by decide +kernel
theorem dX4_daysLeft_13 : decode cX4_daysLeft 13 = .ok (.ifCond .ne 14, 3) := by decide +kernel
theorem dX4_daysLeft_16 : decode cX4_daysLeft 16 = .ok (.new 153, 3) := by decide +kernel
theorem dX4_daysLeft_19 : decode cX4_daysLeft 19 = .ok (.dup, 1) := by decide +kernel
theorem dX4_daysLeft_20 : decode cX4_daysLeft 20 = .ok (.ldc_w 266, 3) := by decide +kernel
theorem dX4_daysLeft_23 : decode cX4_daysLeft 23 = .ok (.invokespecial 157, 3) := by decide +kernel
theorem dX4_daysLeft_26 : decode cX4_daysLeft 26 = .ok (.athrow, 1) := by decide +kernel
theorem dX4_daysLeft_27 : decode cX4_daysLeft 27 = .ok (.iconst (-1), 1) := by decide +kernel
theorem dX4_daysLeft_28 : decode cX4_daysLeft 28 = .ok (.aload_n 2, 1) := by decide +kernel
theorem dX4_daysLeft_29 : decode cX4_daysLeft 29 = .ok (.getfield 133, 3) := by decide +kernel
theorem dX4_daysLeft_32 : decode cX4_daysLeft 32 = .ok (.aload_n 0, 1) := by decide +kernel
theorem dX4_daysLeft_33 : decode cX4_daysLeft 33 = .ok (.getfield 12, 3) := by decide +kernel
theorem dX4_daysLeft_36 : decode cX4_daysLeft 36 = .ok (.getfield 259, 3) := by decide +kernel
theorem dX4_daysLeft_39 : decode cX4_daysLeft 39 = .ok (.aload_n 2, 1) := by decide +kernel
theorem dX4_daysLeft_40 : decode cX4_daysLeft 40 = .ok (.getfield 139, 3) := by decide +kernel
theorem dX4_daysLeft_43 : decode cX4_daysLeft 43 = .ok (.isub, 1) := by decide +kernel
theorem dX4_daysLeft_44 : decode cX4_daysLeft 44 = .ok (.isub, 1) := by decide +kernel
theorem dX4_daysLeft_45 : decode cX4_daysLeft 45 = .ok (.invokestatic 268, 3) := by decide +kernel
theorem dX4_daysLeft_48 : decode cX4_daysLeft 48 = .ok (.ireturn, 1) := by decide +kernel
theorem h9_X4_daysLeft : yX4_daysLeft.cls ≠ "java/lang/invoke/MethodHandle" ∧ yX4_daysLeft.cls ≠ "java/lang/invoke/VarHandle" ∧ (parseMethodDescriptor yX4_daysLeft.desc).map (fun d => d.parameters.length) = some 1 := by decide +kernel
noncomputable def F_X4_daysLeft (a0 : Nat) (x1 : Int32) (w : FW) : Option (Int32 ⊕ Nat) :=
  fg (w.1 a0 = 5) inferInstance ((F_X4_existing a0 x1 w).bind (fun r1 => fse r1 (fun v5 => fg (w.1 v5 = 3) inferInstance (fg (w.1 (gR w 206 v5 0) = 1) inferInstance ((if (gI w 4 (gR w 206 v5 0) 0) = 0 then some (.inr 5) else fg (w.1 (gR w 400 a0 0) = 2) inferInstance ((F_J9_max_7cf53 (-1) ((gI w 203 v5 0) - ((gI w 105 (gR w 400 a0 0) 0) - (gI w 205 v5 0))) w).bind (fun r12 => some (.inl r12))))))) (fun x6 => some (.inr x6))))
set_option maxHeartbeats 4000000 in
set_option maxRecDepth 100000 in
theorem c_X4_daysLeft (l : Launch) (D : va_G) (cy : Nat → ClassId) (a0 : Nat) (x1 : Int32) (w : FW) (r : Int32 ⊕ Nat) (hF : F_X4_daysLeft a0 x1 w = some r) : fSpecX l D cy yX4_daysLeft cX4_daysLeft 3 (some .int) { frames := 7, cells := 2, slots := 12, locals := 121 } [.ref a0, .int x1] w w (fOI r) := by
  refine f_beginX (by decide +kernel) (Nat.le_of_ble_eq_true rfl) (fun X hC hEn => ?_)
  have hst := f_st hC hEn
  unfold F_X4_daysLeft at hF
  show fAt X 0 0 3 w [(0, .ref a0), (1, .int x1)] [] 0
  refine f_aload_n hC dX4_daysLeft_0 rfl 0 rfl ?_
  refine f_iload_n hC dX4_daysLeft_1 rfl 1 rfl ?_
  obtain ⟨g3, hF⟩ := fg_open hF
  obtain ⟨r1, h2, hF⟩ := fb_open hF
  rcases r1 with v5 | x6
  · refine f_callVR hC [.int x1] hst (c_X4_existing l D cy a0 x1 w (.inl v5) h2) q_404 q_73 q_401 q_403 q_1 h9_X4_existing rfl (fSm.k (fSm.rf w) g3) ⟨Nat.le_of_ble_eq_true rfl, Nat.le_of_ble_eq_true rfl⟩ ⟨Nat.le_of_ble_eq_true rfl, Nat.le_of_ble_eq_true rfl⟩ (Nat.le_of_ble_eq_true rfl) rfl dX4_daysLeft_2 (fun e4 => ?_)
    refine f_astore_n (L' := [(2, .ref v5), (0, .ref a0), (1, .int x1)]) hC dX4_daysLeft_5 rfl (by decide) rfl ?_
    refine f_aload_n hC dX4_daysLeft_6 rfl 0 rfl ?_
    obtain ⟨g8, hF⟩ := fg_open hF
    refine f_getRN hC 2 6 206 rfl (by decide) iX2 q_195 rfl rfl (fSm.k (fSm.rf w) g8) dX4_daysLeft_7 ?_
    obtain ⟨g9, hF⟩ := fg_open hF
    refine f_getIN hC 0 4 4 rfl (by decide) iX0 q_161 rfl rfl (fSm.k (fSm.rf w) g9) dX4_daysLeft_10 ?_
    refine f_if_ne hC 27 dX4_daysLeft_13 (by decide) (fun c10 => ?_) (fun c10 => ?_)
    · replace hF := fi_neg hF c10
      refine f_iconst (v := (-1)) hC dX4_daysLeft_27 (by decide) ?_
      refine f_aload_n hC dX4_daysLeft_28 rfl 0 rfl ?_
      refine f_getIN hC 2 3 203 rfl (by decide) iX2 q_185 rfl rfl (fSm.k (fSm.rf w) g8) dX4_daysLeft_29 ?_
      refine f_aload_n hC dX4_daysLeft_32 rfl 1 rfl ?_
      refine f_getR hC 4 0 400 rfl (by decide) iX4 q_260 rfl rfl (fSm.k (fSm.rf w) g3) dX4_daysLeft_33 ?_
      obtain ⟨g11, hF⟩ := fg_open hF
      refine f_getIN hC 1 5 105 rfl (by decide) iX1 q_227 rfl rfl (fSm.k (fSm.rf w) g11) dX4_daysLeft_36 ?_
      refine f_aload_n hC dX4_daysLeft_39 rfl 0 rfl ?_
      refine f_getIN hC 2 5 205 rfl (by decide) iX2 q_191 rfl rfl (fSm.k (fSm.rf w) g8) dX4_daysLeft_40 ?_
      refine f_isub hC dX4_daysLeft_43 ?_
      refine f_isub hC dX4_daysLeft_44 ?_
      obtain ⟨r12, h13, hF⟩ := fb_open hF
      refine f_callS hC [.int (-1), .int ((gI w 203 v5 0) - ((gI w 105 (gR w 400 a0 0) 0) - (gI w 205 v5 0)))] (c_J9_max_7cf53 l D cy (-1) ((gI w 203 v5 0) - ((gI w 105 (gR w 400 a0 0) 0) - (gI w 205 v5 0))) w r12 h13) q_694 q_85 q_1301 q_693 h9_J9_max_7cf53 ⟨Nat.le_of_ble_eq_true rfl, Nat.le_of_ble_eq_true rfl⟩ ⟨Nat.le_of_ble_eq_true rfl, Nat.le_of_ble_eq_true rfl⟩ (Nat.le_of_ble_eq_true rfl) rfl dX4_daysLeft_45 (fun e14 => ?_)
      obtain rfl := Option.some.inj hF
      refine f_widen (k' := 2) (s' := 12) (Nat.le_of_ble_eq_true rfl) (Nat.le_of_ble_eq_true rfl) ?_
      exact f_iretX hC hEn (fSm.rf w) dX4_daysLeft_48
    · replace hF := fi_pos hF c10
      obtain rfl := Option.some.inj hF
      exact f_throwXSW hC hEn (fSm.rf w) 43 rfl xf_5 xy_5 xn_5 ns_0 ns_1 ns_2 ns_5 q_525 q_89 rfl xa_RX4_157 xg_RX4_153_157 dX4_daysLeft_16 dX4_daysLeft_19 dX4_daysLeft_20 dX4_daysLeft_23 dX4_daysLeft_26 (Nat.le_of_ble_eq_true rfl) (Nat.le_of_ble_eq_true rfl) (Nat.le_of_ble_eq_true rfl) (Nat.le_of_ble_eq_true rfl) (Nat.le_of_ble_eq_true rfl) (Nat.le_of_ble_eq_true rfl)
  · obtain rfl := Option.some.inj hF
    exact f_callVT hC [.int x1] hEn (fSm.rf w) (Nat.le_of_ble_eq_true rfl) (Nat.le_of_ble_eq_true rfl) (c_X4_existing l D cy a0 x1 w (.inr x6) h2) q_404 q_73 q_401 q_403 q_1 h9_X4_existing rfl (fSm.k (fSm.rf w) g3) ⟨Nat.le_of_ble_eq_true rfl, Nat.le_of_ble_eq_true rfl⟩ ⟨Nat.le_of_ble_eq_true rfl, Nat.le_of_ble_eq_true rfl⟩ (Nat.le_of_ble_eq_true rfl) rfl dX4_daysLeft_2
theorem dX3_isSame_0 : decode cX3_isSame 0 = .ok (.aload_n 0, 1) := by decide +kernel
theorem dX3_isSame_1 : decode cX3_isSame 1 = .ok (.getfield 15, 3) := by decide +kernel
theorem dX3_isSame_4 : decode cX3_isSame 4 = .ok (.aload_n 1, 1) := by decide +kernel
theorem dX3_isSame_5 : decode cX3_isSame 5 = .ok (.getfield 15, 3) := by decide +kernel
theorem dX3_isSame_8 : decode cX3_isSame 8 = .ok (.if_icmp .eq 5, 3) := by decide +kernel
theorem dX3_isSame_11 : decode cX3_isSame 11 = .ok (.iconst 0, 1) := by decide +kernel
theorem dX3_isSame_12 : decode cX3_isSame 12 = .ok (.ireturn, 1) := by decide +kernel
theorem dX3_isSame_13 : decode cX3_isSame 13 = .ok (.iconst 0, 1) := by decide +kernel
theorem dX3_isSame_14 : decode cX3_isSame 14 = .ok (.istore_n 2, 1) := by decide +kernel
theorem dX3_isSame_15 : decode cX3_isSame 15 = .ok (.iload_n 2, 1) := by decide +kernel
theorem dX3_isSame_16 : decode cX3_isSame 16 = .ok (.aload_n 0, 1) := by decide +kernel
theorem dX3_isSame_17 : decode cX3_isSame 17 = .ok (.getfield 15, 3) := by decide +kernel
theorem dX3_isSame_20 : decode cX3_isSame 20 = .ok (.if_icmp .ge 24, 3) := by decide +kernel
theorem dX3_isSame_23 : decode cX3_isSame 23 = .ok (.aload_n 0, 1) := by decide +kernel
theorem dX3_isSame_24 : decode cX3_isSame 24 = .ok (.iload_n 2, 1) := by decide +kernel
theorem dX3_isSame_25 : decode cX3_isSame 25 = .ok (.invokevirtual 23, 3) := by decide +kernel
theorem dX3_isSame_28 : decode cX3_isSame 28 = .ok (.aload_n 1, 1) := by decide +kernel
theorem dX3_isSame_29 : decode cX3_isSame 29 = .ok (.iload_n 2, 1) := by decide +kernel
theorem dX3_isSame_30 : decode cX3_isSame 30 = .ok (.invokevirtual 23, 3) := by decide +kernel
theorem dX3_isSame_33 : decode cX3_isSame 33 = .ok (.if_icmp .eq 5, 3) := by decide +kernel
theorem dX3_isSame_36 : decode cX3_isSame 36 = .ok (.iconst 0, 1) := by decide +kernel
theorem dX3_isSame_37 : decode cX3_isSame 37 = .ok (.ireturn, 1) := by decide +kernel
theorem dX3_isSame_38 : decode cX3_isSame 38 = .ok (.iinc 2 1, 3) := by decide +kernel
theorem dX3_isSame_41 : decode cX3_isSame 41 = .ok (.goto (-26), 3) := by decide +kernel
theorem dX3_isSame_44 : decode cX3_isSame 44 = .ok (.iconst 1, 1) := by decide +kernel
theorem dX3_isSame_45 : decode cX3_isSame 45 = .ok (.ireturn, 1) := by decide +kernel
theorem h9_X3_isSame : yX3_isSame.cls ≠ "java/lang/invoke/MethodHandle" ∧ yX3_isSame.cls ≠ "java/lang/invoke/VarHandle" ∧ (parseMethodDescriptor yX3_isSame.desc).map (fun d => d.parameters.length) = some 1 := by decide +kernel
noncomputable def F_X3_isSame (a0 : Nat) (a1 : Nat) (w : FW) : Option (Int32) :=
  fg (w.1 a0 = 4) inferInstance (fg (w.1 a1 = 4) inferInstance ((if (gI w 301 a0 0) = (gI w 301 a1 0) then (fLoop (σ := Int32) (ρ := (Unit) ⊕ (Int32)) (fun s4 => (if (gI w 301 a0 0) ≤ s4 then some (.inr (.inl ())) else (F_X3_letterAt a0 s4 w).bind (fun r14 => (F_X3_letterAt a1 s4 w).bind (fun r17 => (if r14 = r17 then some (.inl (s4 + 1)) else some (.inr (.inr 0))))))) 0).bind (fun x10 => fse x10 (fun z21 => some 1) (fun q9 => some q9)) else some 0)))
set_option maxHeartbeats 4000000 in
set_option maxRecDepth 100000 in
theorem c_X3_isSame (l : Launch) (D : va_G) (cy : Nat → ClassId) (a0 : Nat) (a1 : Nat) (w : FW) (r : Int32) (hF : F_X3_isSame a0 a1 w = some r) : fSpec l D cy yX3_isSame cX3_isSame 3 (some .boolean) { frames := 2, cells := 0, slots := 0, locals := 42 } [.ref a0, .ref a1] w w (some (.int r)) := by
  refine f_begin (by decide +kernel) (Nat.le_of_ble_eq_true rfl) (fun X hC hEn => ?_)
  unfold F_X3_isSame at hF
  show fAt X 0 0 3 w [(0, .ref a0), (1, .ref a1)] [] 0
  refine f_aload_n hC dX3_isSame_0 rfl 0 rfl ?_
  obtain ⟨g1, hF⟩ := fg_open hF
  refine f_getI hC 3 1 301 rfl (by decide) iX3 q_123 rfl rfl (fSm.k (fSm.rf w) g1) dX3_isSame_1 ?_
  refine f_aload_n hC dX3_isSame_4 rfl 1 rfl ?_
  obtain ⟨g2, hF⟩ := fg_open hF
  refine f_getI hC 3 1 301 rfl (by decide) iX3 q_123 rfl rfl (fSm.k (fSm.rf w) g2) dX3_isSame_5 ?_
  refine f_icmp_eq hC 13 dX3_isSame_8 (by decide) (fun c3 => ?_) (fun c3 => ?_)
  · replace hF := fi_pos hF c3
    refine f_iconst (v := 0) hC dX3_isSame_13 (by decide) ?_
    refine f_istore_n (L' := [(2, .int 0), (0, .ref a0), (1, .ref a1)]) hC dX3_isSame_14 rfl (by decide) rfl ?_
    obtain ⟨x10, h11, hF⟩ := fb_open hF
    have K12 : ∀ z21, x10 = .inl z21 → fAt X 0 0 3 w [] [] 44 := by
      intro z21 hz9
      subst hz9
      refine f_iconst (v := 1) hC dX3_isSame_44 (by decide) ?_
      obtain rfl := Option.some.inj hF
      exact f_zret hC hEn (fSm.rf w) (nar_z (by decide)) dX3_isSame_45
    refine f_sub (L' := [(0, .ref a0), (1, .ref a1), (2, .int 0)]) [1, 2, 0] rfl ?_
    refine fLoop_ind (fun (s4 : Int32) => fAt X 0 0 3 w [(0, .ref a0), (1, .ref a1), (2, .int s4)] [] 15) (fun s4 y9 h5 go6 ou7 => ?_) h11
    refine f_iload_n hC dX3_isSame_15 rfl 2 rfl ?_
    refine f_aload_n hC dX3_isSame_16 rfl 0 rfl ?_
    refine f_getI hC 3 1 301 rfl (by decide) iX3 q_123 rfl rfl (fSm.k (fSm.rf w) g1) dX3_isSame_17 ?_
    refine f_icmp_ge hC 44 dX3_isSame_20 (by decide) (fun c13 => ?_) (fun c13 => ?_)
    · replace h5 := fi_pos h5 c13
      obtain rfl := Option.some.inj h5
      have eo := ou7 _ rfl
      refine f_sub (L' := []) [] rfl ?_
      exact K12 _ eo.symm
    · replace h5 := fi_neg h5 c13
      refine f_aload_n hC dX3_isSame_23 rfl 0 rfl ?_
      refine f_iload_n hC dX3_isSame_24 rfl 2 rfl ?_
      obtain ⟨r14, h15, h5⟩ := fb_open h5
      refine f_callV hC [.int s4] (c_X3_letterAt l D cy a0 s4 w r14 h15) q_433 q_75 q_979 q_432 q_5 h9_X3_letterAt rfl (fSm.k (fSm.rf w) g1) ⟨Nat.le_of_ble_eq_true rfl, Nat.le_of_ble_eq_true rfl⟩ ⟨Nat.le_of_ble_eq_true rfl, Nat.le_of_ble_eq_true rfl⟩ (Nat.le_of_ble_eq_true rfl) rfl dX3_isSame_25 (fun e16 => ?_)
      refine f_aload_n hC dX3_isSame_28 rfl 1 rfl ?_
      refine f_iload_n hC dX3_isSame_29 rfl 2 rfl ?_
      obtain ⟨r17, h18, h5⟩ := fb_open h5
      refine f_callV hC [.int s4] (c_X3_letterAt l D cy a1 s4 w r17 h18) q_433 q_75 q_979 q_432 q_5 h9_X3_letterAt rfl (fSm.k (fSm.rf w) g2) ⟨Nat.le_of_ble_eq_true rfl, Nat.le_of_ble_eq_true rfl⟩ ⟨Nat.le_of_ble_eq_true rfl, Nat.le_of_ble_eq_true rfl⟩ (Nat.le_of_ble_eq_true rfl) rfl dX3_isSame_30 (fun e19 => ?_)
      refine f_icmp_eq hC 38 dX3_isSame_33 (by decide) (fun c20 => ?_) (fun c20 => ?_)
      · replace h5 := fi_pos h5 c20
        refine f_iinc (L' := [(2, .int (s4 + 1)), (0, .ref a0), (1, .ref a1)]) hC dX3_isSame_38 2 rfl rfl (by decide) rfl ?_
        refine f_goto hC 15 dX3_isSame_41 (by decide) ?_
        obtain rfl := Option.some.inj h5
        refine f_sub (L' := [(0, .ref a0), (1, .ref a1), (2, .int (s4 + 1))]) [1, 2, 0] rfl ?_
        exact go6 _ rfl
      · replace h5 := fi_neg h5 c20
        refine f_iconst (v := 0) hC dX3_isSame_36 (by decide) ?_
        obtain rfl := Option.some.inj h5
        obtain rfl := ou7 _ rfl
        obtain rfl := Option.some.inj hF
        exact f_zret hC hEn (fSm.rf w) (nar_z (by decide)) dX3_isSame_37
  · replace hF := fi_neg hF c3
    refine f_iconst (v := 0) hC dX3_isSame_11 (by decide) ?_
    obtain rfl := Option.some.inj hF
    exact f_zret hC hEn (fSm.rf w) (nar_z (by decide)) dX3_isSame_12
theorem dX1_firstWith_0 : decode cX1_firstWith 0 = .ok (.iconst 0, 1) := by decide +kernel
theorem dX1_firstWith_1 : decode cX1_firstWith 1 = .ok (.istore_n 2, 1) := by decide +kernel
theorem dX1_firstWith_2 : decode cX1_firstWith 2 = .ok (.iload_n 2, 1) := by decide +kernel
theorem dX1_firstWith_3 : decode cX1_firstWith 3 = .ok (.aload_n 0, 1) := by decide +kernel
theorem dX1_firstWith_4 : decode cX1_firstWith 4 = .ok (.getfield 17, 3) := by decide +kernel
theorem dX1_firstWith_7 : decode cX1_firstWith 7 = .ok (.if_icmp .ge 27, 3) := by decide +kernel
theorem dX1_firstWith_10 : decode cX1_firstWith 10 = .ok (.aload_n 0, 1) := by decide +kernel
theorem dX1_firstWith_11 : decode cX1_firstWith 11 = .ok (.getfield 11, 3) := by decide +kernel
theorem dX1_firstWith_14 : decode cX1_firstWith 14 = .ok (.iload_n 2, 1) := by decide +kernel
theorem dX1_firstWith_15 : decode cX1_firstWith 15 = .ok (.aaload, 1) := by decide +kernel
theorem dX1_firstWith_16 : decode cX1_firstWith 16 = .ok (.getfield 88, 3) := by decide +kernel
theorem dX1_firstWith_19 : decode cX1_firstWith 19 = .ok (.aload_n 1, 1) := by decide +kernel
theorem dX1_firstWith_20 : decode cX1_firstWith 20 = .ok (.invokevirtual 99, 3) := by decide +kernel
theorem dX1_firstWith_23 : decode cX1_firstWith 23 = .ok (.ifCond .eq 5, 3) := by decide +kernel
theorem dX1_firstWith_26 : decode cX1_firstWith 26 = .ok (.iload_n 2, 1) := by decide +kernel
theorem dX1_firstWith_27 : decode cX1_firstWith 27 = .ok (.ireturn, 1) := by decide +kernel
theorem dX1_firstWith_28 : decode cX1_firstWith 28 = .ok (.iinc 2 1, 3) := by decide +kernel
theorem dX1_firstWith_31 : decode cX1_firstWith 31 = .ok (.goto (-29), 3) := by decide +kernel
theorem dX1_firstWith_34 : decode cX1_firstWith 34 = .ok (.iconst (-1), 1) := by decide +kernel
theorem dX1_firstWith_35 : decode cX1_firstWith 35 = .ok (.ireturn, 1) := by decide +kernel
theorem h9_X1_firstWith : yX1_firstWith.cls ≠ "java/lang/invoke/MethodHandle" ∧ yX1_firstWith.cls ≠ "java/lang/invoke/VarHandle" ∧ (parseMethodDescriptor yX1_firstWith.desc).map (fun d => d.parameters.length) = some 1 := by decide +kernel
noncomputable def F_X1_firstWith (a0 : Nat) (a1 : Nat) (w : FW) : Option (Int32) :=
  (fLoop (σ := Int32) (ρ := (Unit) ⊕ (Int32)) (fun s1 => fg (w.1 a0 = 2) inferInstance ((if (gI w 101 a0 0) ≤ s1 then some (.inr (.inl ())) else fg (w.1 (gR w 100 a0 0) = 14) inferInstance (fg (¬ (s1 < 0 ∨ w.2.1 (gR w 100 a0 0) ≤ Int32.toNatClampNeg s1)) inferInstance (fg (w.1 (gR w 604 (gR w 100 a0 0) (Int32.toNatClampNeg s1)) = 3) inferInstance (fg (w.1 (gR w 200 (gR w 604 (gR w 100 a0 0) (Int32.toNatClampNeg s1)) 0) = 4) inferInstance ((F_X3_isSame (gR w 200 (gR w 604 (gR w 100 a0 0) (Int32.toNatClampNeg s1)) 0) a1 w).bind (fun r15 => (if r15 = 0 then some (.inl (s1 + 1)) else some (.inr (.inr s1))))))))))) 0).bind (fun x7 => fse x7 (fun z20 => some (-1)) (fun q9 => some q9))
set_option maxHeartbeats 4000000 in
set_option maxRecDepth 100000 in
theorem c_X1_firstWith (l : Launch) (D : va_G) (cy : Nat → ClassId) (a0 : Nat) (a1 : Nat) (w : FW) (r : Int32) (hF : F_X1_firstWith a0 a1 w = some r) : fSpec l D cy yX1_firstWith cX1_firstWith 3 (some .int) { frames := 3, cells := 0, slots := 0, locals := 64 } [.ref a0, .ref a1] w w (some (.int r)) := by
  refine f_begin (by decide +kernel) (Nat.le_of_ble_eq_true rfl) (fun X hC hEn => ?_)
  unfold F_X1_firstWith at hF
  show fAt X 0 0 3 w [(0, .ref a0), (1, .ref a1)] [] 0
  refine f_iconst (v := 0) hC dX1_firstWith_0 (by decide) ?_
  refine f_istore_n (L' := [(2, .int 0), (0, .ref a0), (1, .ref a1)]) hC dX1_firstWith_1 rfl (by decide) rfl ?_
  obtain ⟨x7, h8, hF⟩ := fb_open hF
  have K9 : ∀ z20, x7 = .inl z20 → fAt X 0 0 3 w [] [] 34 := by
    intro z20 hz9
    subst hz9
    refine f_iconst (v := (-1)) hC dX1_firstWith_34 (by decide) ?_
    obtain rfl := Option.some.inj hF
    exact f_iret hC hEn (fSm.rf w) dX1_firstWith_35
  refine f_sub (L' := [(0, .ref a0), (1, .ref a1), (2, .int 0)]) [1, 2, 0] rfl ?_
  refine fLoop_ind (fun (s1 : Int32) => fAt X 0 0 3 w [(0, .ref a0), (1, .ref a1), (2, .int s1)] [] 2) (fun s1 y6 h2 go3 ou4 => ?_) h8
  refine f_iload_n hC dX1_firstWith_2 rfl 2 rfl ?_
  refine f_aload_n hC dX1_firstWith_3 rfl 0 rfl ?_
  obtain ⟨g10, h2⟩ := fg_open h2
  refine f_getI hC 1 1 101 rfl (by decide) iX1 q_218 rfl rfl (fSm.k (fSm.rf w) g10) dX1_firstWith_4 ?_
  refine f_icmp_ge hC 34 dX1_firstWith_7 (by decide) (fun c11 => ?_) (fun c11 => ?_)
  · replace h2 := fi_pos h2 c11
    obtain rfl := Option.some.inj h2
    have eo := ou4 _ rfl
    refine f_sub (L' := []) [] rfl ?_
    exact K9 _ eo.symm
  · replace h2 := fi_neg h2 c11
    refine f_aload_n hC dX1_firstWith_10 rfl 0 rfl ?_
    refine f_getR hC 1 0 100 rfl (by decide) iX1 q_216 rfl rfl (fSm.k (fSm.rf w) g10) dX1_firstWith_11 ?_
    refine f_iload_n hC dX1_firstWith_14 rfl 2 rfl ?_
    obtain ⟨g12, h2⟩ := fg_open h2
    obtain ⟨g13, h2⟩ := fg_open h2
    refine f_aald1 hC (fSm.k (fSm.rf w) g12) (fSm.v (fSm.rf w) g13) dX1_firstWith_15 ?_
    obtain ⟨g14, h2⟩ := fg_open h2
    refine f_getRN hC 2 0 200 rfl (by decide) iX2 q_177 rfl rfl (fSm.k (fSm.rf w) g14) dX1_firstWith_16 ?_
    refine f_aload_n hC dX1_firstWith_19 rfl 1 rfl ?_
    obtain ⟨g17, h2⟩ := fg_open h2
    obtain ⟨r15, h16, h2⟩ := fb_open h2
    refine f_callVN hC [.ref a1] (c_X3_isSame l D cy (gR w 200 (gR w 604 (gR w 100 a0 0) (Int32.toNatClampNeg s1)) 0) a1 w r15 h16) q_1271 q_75 q_1358 q_1270 q_60 h9_X3_isSame rfl (fSm.k (fSm.rf w) g17) ⟨Nat.le_of_ble_eq_true rfl, Nat.le_of_ble_eq_true rfl⟩ ⟨Nat.le_of_ble_eq_true rfl, Nat.le_of_ble_eq_true rfl⟩ (Nat.le_of_ble_eq_true rfl) rfl dX1_firstWith_20 (fun e18 => ?_)
    refine f_if_eq hC 28 dX1_firstWith_23 (by decide) (fun c19 => ?_) (fun c19 => ?_)
    · replace h2 := fi_pos h2 c19
      refine f_iinc (L' := [(2, .int (s1 + 1)), (0, .ref a0), (1, .ref a1)]) hC dX1_firstWith_28 2 rfl rfl (by decide) rfl ?_
      refine f_goto hC 2 dX1_firstWith_31 (by decide) ?_
      obtain rfl := Option.some.inj h2
      refine f_sub (L' := [(0, .ref a0), (1, .ref a1), (2, .int (s1 + 1))]) [1, 2, 0] rfl ?_
      exact go3 _ rfl
    · replace h2 := fi_neg h2 c19
      refine f_iload_n hC dX1_firstWith_26 rfl 2 rfl ?_
      obtain rfl := Option.some.inj h2
      obtain rfl := ou4 _ rfl
      obtain rfl := Option.some.inj hF
      exact f_iret hC hEn (fSm.rf w) dX1_firstWith_27
theorem dX4_words_0 : decode cX4_words 0 = .ok (.iconst 0, 1) := by decide +kernel
theorem dX4_words_1 : decode cX4_words 1 = .ok (.istore_n 1, 1) := by decide +kernel
theorem dX4_words_2 : decode cX4_words 2 = .ok (.iconst 0, 1) := by decide +kernel
theorem dX4_words_3 : decode cX4_words 3 = .ok (.istore_n 2, 1) := by decide +kernel
theorem dX4_words_4 : decode cX4_words 4 = .ok (.iload_n 2, 1) := by decide +kernel
theorem dX4_words_5 : decode cX4_words 5 = .ok (.aload_n 0, 1) := by decide +kernel
theorem dX4_words_6 : decode cX4_words 6 = .ok (.getfield 12, 3) := by decide +kernel
theorem dX4_words_9 : decode cX4_words 9 = .ok (.getfield 66, 3) := by decide +kernel
theorem dX4_words_12 : decode cX4_words 12 = .ok (.if_icmp .ge 35, 3) := by decide +kernel
theorem dX4_words_15 : decode cX4_words 15 = .ok (.aload_n 0, 1) := by decide +kernel
theorem dX4_words_16 : decode cX4_words 16 = .ok (.getfield 12, 3) := by decide +kernel
theorem dX4_words_19 : decode cX4_words 19 = .ok (.aload_n 0, 1) := by decide +kernel
theorem dX4_words_20 : decode cX4_words 20 = .ok (.getfield 12, 3) := by decide +kernel
theorem dX4_words_23 : decode cX4_words 23 = .ok (.getfield 235, 3) := by decide +kernel
theorem dX4_words_26 : decode cX4_words 26 = .ok (.iload_n 2, 1) := by decide +kernel
theorem dX4_words_27 : decode cX4_words 27 = .ok (.aaload, 1) := by decide +kernel
theorem dX4_words_28 : decode cX4_words 28 = .ok (.getfield 119, 3) := by decide +kernel
theorem dX4_words_31 : decode cX4_words 31 = .ok (.invokevirtual 273, 3) := by decide +kernel
theorem dX4_words_34 : decode cX4_words 34 = .ok (.iload_n 2, 1) := by decide +kernel
theorem dX4_words_35 : decode cX4_words 35 = .ok (.if_icmp .ne 6, 3) := by decide +kernel
theorem dX4_words_38 : decode cX4_words 38 = .ok (.iinc 1 1, 3) := by decide +kernel
theorem dX4_words_41 : decode cX4_words 41 = .ok (.iinc 2 1, 3) := by decide +kernel
theorem dX4_words_44 : decode cX4_words 44 = .ok (.goto (-40), 3) := by decide +kernel
theorem dX4_words_47 : decode cX4_words 47 = .ok (.iload_n 1, 1) := by decide +kernel
theorem dX4_words_48 : decode cX4_words 48 = .ok (.ireturn, 1) := by decide +kernel
theorem h9_X4_words : yX4_words.cls ≠ "java/lang/invoke/MethodHandle" ∧ yX4_words.cls ≠ "java/lang/invoke/VarHandle" ∧ (parseMethodDescriptor yX4_words.desc).map (fun d => d.parameters.length) = some 0 := by decide +kernel
noncomputable def F_X4_words (a0 : Nat) (w : FW) : Option (Int32) :=
  (fLoop (σ := Int32 × Int32) (ρ := Int32) (fun s1 => fg (w.1 a0 = 5) inferInstance (fg (w.1 (gR w 400 a0 0) = 2) inferInstance ((if (gI w 101 (gR w 400 a0 0) 0) ≤ s1.2 then some (.inr s1.1) else fg (w.1 (gR w 100 (gR w 400 a0 0) 0) = 14) inferInstance (fg (¬ (s1.2 < 0 ∨ w.2.1 (gR w 100 (gR w 400 a0 0) 0) ≤ Int32.toNatClampNeg s1.2)) inferInstance (fg (w.1 (gR w 604 (gR w 100 (gR w 400 a0 0) 0) (Int32.toNatClampNeg s1.2)) = 3) inferInstance ((F_X1_firstWith (gR w 400 a0 0) (gR w 200 (gR w 604 (gR w 100 (gR w 400 a0 0) 0) (Int32.toNatClampNeg s1.2)) 0) w).bind (fun r16 => (if r16 = s1.2 then some (.inl ((s1.1 + 1), (s1.2 + 1))) else some (.inl (s1.1, (s1.2 + 1)))))))))))) (0, 0)).bind (fun x7 => some x7)
set_option maxHeartbeats 4000000 in
set_option maxRecDepth 100000 in
theorem c_X4_words (l : Launch) (D : va_G) (cy : Nat → ClassId) (a0 : Nat) (w : FW) (r : Int32) (hF : F_X4_words a0 w = some r) : fSpec l D cy yX4_words cX4_words 3 (some .int) { frames := 4, cells := 0, slots := 0, locals := 86 } [.ref a0] w w (some (.int r)) := by
  refine f_begin (by decide +kernel) (Nat.le_of_ble_eq_true rfl) (fun X hC hEn => ?_)
  unfold F_X4_words at hF
  show fAt X 0 0 3 w [(0, .ref a0)] [] 0
  refine f_iconst (v := 0) hC dX4_words_0 (by decide) ?_
  refine f_istore_n (L' := [(1, .int 0), (0, .ref a0)]) hC dX4_words_1 rfl (by decide) rfl ?_
  refine f_iconst (v := 0) hC dX4_words_2 (by decide) ?_
  refine f_istore_n (L' := [(2, .int 0), (1, .int 0), (0, .ref a0)]) hC dX4_words_3 rfl (by decide) rfl ?_
  obtain ⟨x7, h8, hF⟩ := fb_open hF
  have K9 : fAt X 0 0 3 w [(1, .int x7)] [] 47 := by
    refine f_iload_n hC dX4_words_47 rfl 0 rfl ?_
    obtain rfl := Option.some.inj hF
    exact f_iret hC hEn (fSm.rf w) dX4_words_48
  refine f_sub (L' := [(0, .ref a0), (1, .int 0), (2, .int 0)]) [2, 1, 0] rfl ?_
  refine fLoop_ind (fun (s1 : Int32 × Int32) => fAt X 0 0 3 w [(0, .ref a0), (1, .int s1.1), (2, .int s1.2)] [] 4) (fun s1 y6 h2 go3 ou4 => ?_) h8
  refine f_iload_n hC dX4_words_4 rfl 2 rfl ?_
  refine f_aload_n hC dX4_words_5 rfl 0 rfl ?_
  obtain ⟨g10, h2⟩ := fg_open h2
  refine f_getR hC 4 0 400 rfl (by decide) iX4 q_260 rfl rfl (fSm.k (fSm.rf w) g10) dX4_words_6 ?_
  obtain ⟨g11, h2⟩ := fg_open h2
  refine f_getIN hC 1 1 101 rfl (by decide) iX1 q_219 rfl rfl (fSm.k (fSm.rf w) g11) dX4_words_9 ?_
  refine f_icmp_ge hC 47 dX4_words_12 (by decide) (fun c12 => ?_) (fun c12 => ?_)
  · replace h2 := fi_pos h2 c12
    obtain rfl := Option.some.inj h2
    obtain rfl := ou4 _ rfl
    refine f_sub (L' := [(1, .int s1.1)]) [1] rfl ?_
    exact K9
  · replace h2 := fi_neg h2 c12
    refine f_aload_n hC dX4_words_15 rfl 0 rfl ?_
    refine f_getR hC 4 0 400 rfl (by decide) iX4 q_260 rfl rfl (fSm.k (fSm.rf w) g10) dX4_words_16 ?_
    refine f_aload_n hC dX4_words_19 rfl 0 rfl ?_
    refine f_getR hC 4 0 400 rfl (by decide) iX4 q_260 rfl rfl (fSm.k (fSm.rf w) g10) dX4_words_20 ?_
    refine f_getRN hC 1 0 100 rfl (by decide) iX1 q_217 rfl rfl (fSm.k (fSm.rf w) g11) dX4_words_23 ?_
    refine f_iload_n hC dX4_words_26 rfl 2 rfl ?_
    obtain ⟨g13, h2⟩ := fg_open h2
    obtain ⟨g14, h2⟩ := fg_open h2
    refine f_aald1 hC (fSm.k (fSm.rf w) g13) (fSm.v (fSm.rf w) g14) dX4_words_27 ?_
    obtain ⟨g15, h2⟩ := fg_open h2
    refine f_getRN hC 2 0 200 rfl (by decide) iX2 q_176 rfl rfl (fSm.k (fSm.rf w) g15) dX4_words_28 ?_
    obtain ⟨r16, h17, h2⟩ := fb_open h2
    refine f_callVN hC [.ref (gR w 200 (gR w 604 (gR w 100 (gR w 400 a0 0) 0) (Int32.toNatClampNeg s1.2)) 0)] (c_X1_firstWith l D cy (gR w 400 a0 0) (gR w 200 (gR w 604 (gR w 100 (gR w 400 a0 0) 0) (Int32.toNatClampNeg s1.2)) 0) w r16 h17) q_1357 q_74 q_1354 q_1356 q_68 h9_X1_firstWith rfl (fSm.k (fSm.rf w) g11) ⟨Nat.le_of_ble_eq_true rfl, Nat.le_of_ble_eq_true rfl⟩ ⟨Nat.le_of_ble_eq_true rfl, Nat.le_of_ble_eq_true rfl⟩ (Nat.le_of_ble_eq_true rfl) rfl dX4_words_31 (fun e18 => ?_)
    refine f_iload_n hC dX4_words_34 rfl 2 rfl ?_
    refine f_icmp_ne hC 41 dX4_words_35 (by decide) (fun c19 => ?_) (fun c19 => ?_)
    · replace h2 := fi_neg h2 c19
      refine f_iinc (L' := [(2, .int (s1.2 + 1)), (0, .ref a0), (1, .int s1.1)]) hC dX4_words_41 2 rfl rfl (by decide) rfl ?_
      refine f_goto hC 4 dX4_words_44 (by decide) ?_
      obtain rfl := Option.some.inj h2
      refine f_sub (L' := [(0, .ref a0), (1, .int s1.1), (2, .int (s1.2 + 1))]) [1, 2, 0] rfl ?_
      exact go3 _ rfl
    · replace h2 := fi_pos h2 c19
      refine f_iinc (L' := [(1, .int (s1.1 + 1)), (0, .ref a0), (2, .int s1.2)]) hC dX4_words_38 1 rfl rfl (by decide) rfl ?_
      refine f_iinc (L' := [(2, .int (s1.2 + 1)), (1, .int (s1.1 + 1)), (0, .ref a0)]) hC dX4_words_41 2 rfl rfl (by decide) rfl ?_
      refine f_goto hC 4 dX4_words_44 (by decide) ?_
      obtain rfl := Option.some.inj h2
      refine f_sub (L' := [(0, .ref a0), (1, .int (s1.1 + 1)), (2, .int (s1.2 + 1))]) [2, 1, 0] rfl ?_
      exact go3 _ rfl
theorem dX4_sharing_0 : decode cX4_sharing 0 = .ok (.aload_n 0, 1) := by decide +kernel
theorem dX4_sharing_1 : decode cX4_sharing 1 = .ok (.iload_n 1, 1) := by decide +kernel
theorem dX4_sharing_2 : decode cX4_sharing 2 = .ok (.invokevirtual 115, 3) := by decide +kernel
theorem dX4_sharing_5 : decode cX4_sharing 5 = .ok (.astore_n 2, 1) := by decide +kernel
theorem dX4_sharing_6 : decode cX4_sharing 6 = .ok (.iconst 0, 1) := by decide +kernel
theorem dX4_sharing_7 : decode cX4_sharing 7 = .ok (.istore_n 3, 1) := by decide +kernel
theorem dX4_sharing_8 : decode cX4_sharing 8 = .ok (.iconst 0, 1) := by decide +kernel
theorem dX4_sharing_9 : decode cX4_sharing 9 = .ok (.istore 4, 2) := by decide +kernel
theorem dX4_sharing_11 : decode cX4_sharing 11 = .ok (.iload 4, 2) := by decide +kernel
theorem dX4_sharing_13 : decode cX4_sharing 13 = .ok (.aload_n 0, 1) := by decide +kernel
theorem dX4_sharing_14 : decode cX4_sharing 14 = .ok (.getfield 12, 3) := by decide +kernel
theorem dX4_sharing_17 : decode cX4_sharing 17 = .ok (.getfield 66, 3) := by decide +kernel
theorem dX4_sharing_20 : decode cX4_sharing 20 = .ok (.if_icmp .ge 35, 3) := by decide +kernel
theorem dX4_sharing_23 : decode cX4_sharing 23 = .ok (.aload_n 0, 1) := by decide +kernel
theorem dX4_sharing_24 : decode cX4_sharing 24 = .ok (.getfield 12, 3) := by decide +kernel
theorem dX4_sharing_27 : decode cX4_sharing 27 = .ok (.getfield 235, 3) := by decide +kernel
theorem dX4_sharing_30 : decode cX4_sharing 30 = .ok (.iload 4, 2) := by decide +kernel
theorem dX4_sharing_32 : decode cX4_sharing 32 = .ok (.aaload, 1) := by decide +kernel
theorem dX4_sharing_33 : decode cX4_sharing 33 = .ok (.getfield 119, 3) := by decide +kernel
theorem dX4_sharing_36 : decode cX4_sharing 36 = .ok (.aload_n 2, 1) := by decide +kernel
theorem dX4_sharing_37 : decode cX4_sharing 37 = .ok (.getfield 119, 3) := by decide +kernel
theorem dX4_sharing_40 : decode cX4_sharing 40 = .ok (.invokevirtual 277, 3) := by decide +kernel
theorem dX4_sharing_43 : decode cX4_sharing 43 = .ok (.ifCond .eq 6, 3) := by decide +kernel
theorem dX4_sharing_46 : decode cX4_sharing 46 = .ok (.iinc 3 1, 3) := by decide +kernel
theorem dX4_sharing_49 : decode cX4_sharing 49 = .ok (.iinc 4 1, 3) := by decide +kernel
theorem dX4_sharing_52 : decode cX4_sharing 52 = .ok (.goto (-41), 3) := by decide +kernel
theorem dX4_sharing_55 : decode cX4_sharing 55 = .ok (.iload_n 3, 1) := by decide +kernel
theorem dX4_sharing_56 : decode cX4_sharing 56 = .ok (.ireturn, 1) := by decide +kernel
theorem h9_X4_sharing : yX4_sharing.cls ≠ "java/lang/invoke/MethodHandle" ∧ yX4_sharing.cls ≠ "java/lang/invoke/VarHandle" ∧ (parseMethodDescriptor yX4_sharing.desc).map (fun d => d.parameters.length) = some 1 := by decide +kernel
noncomputable def F_X4_sharing (a0 : Nat) (x1 : Int32) (w : FW) : Option (Int32 ⊕ Nat) :=
  fg (w.1 a0 = 5) inferInstance ((F_X4_existing a0 x1 w).bind (fun r1 => fse r1 (fun v5 => (fLoop (σ := Int32 × Int32) (ρ := Int32) (fun s8 => fg (w.1 (gR w 400 a0 0) = 2) inferInstance ((if (gI w 101 (gR w 400 a0 0) 0) ≤ s8.2 then some (.inr s8.1) else fg (w.1 (gR w 100 (gR w 400 a0 0) 0) = 14) inferInstance (fg (¬ (s8.2 < 0 ∨ w.2.1 (gR w 100 (gR w 400 a0 0) 0) ≤ Int32.toNatClampNeg s8.2)) inferInstance (fg (w.1 (gR w 604 (gR w 100 (gR w 400 a0 0) 0) (Int32.toNatClampNeg s8.2)) = 3) inferInstance (fg (w.1 v5 = 3) inferInstance (fg (w.1 (gR w 200 (gR w 604 (gR w 100 (gR w 400 a0 0) 0) (Int32.toNatClampNeg s8.2)) 0) = 4) inferInstance ((F_X3_isSame (gR w 200 (gR w 604 (gR w 100 (gR w 400 a0 0) 0) (Int32.toNatClampNeg s8.2)) 0) (gR w 200 v5 0) w).bind (fun r23 => (if r23 = 0 then some (.inl (s8.1, (s8.2 + 1))) else some (.inl ((s8.1 + 1), (s8.2 + 1))))))))))))) (0, 0)).bind (fun x14 => some (.inl x14))) (fun x6 => some (.inr x6))))
set_option maxHeartbeats 4000000 in
set_option maxRecDepth 100000 in
theorem c_X4_sharing (l : Launch) (D : va_G) (cy : Nat → ClassId) (a0 : Nat) (x1 : Int32) (w : FW) (r : Int32 ⊕ Nat) (hF : F_X4_sharing a0 x1 w = some r) : fSpecX l D cy yX4_sharing cX4_sharing 5 (some .int) { frames := 7, cells := 1, slots := 6, locals := 121 } [.ref a0, .int x1] w w (fOI r) := by
  refine f_beginX (by decide +kernel) (Nat.le_of_ble_eq_true rfl) (fun X hC hEn => ?_)
  have hst := f_st hC hEn
  unfold F_X4_sharing at hF
  show fAt X 0 0 5 w [(0, .ref a0), (1, .int x1)] [] 0
  refine f_aload_n hC dX4_sharing_0 rfl 0 rfl ?_
  refine f_iload_n hC dX4_sharing_1 rfl 1 rfl ?_
  obtain ⟨g3, hF⟩ := fg_open hF
  obtain ⟨r1, h2, hF⟩ := fb_open hF
  rcases r1 with v5 | x6
  · refine f_callVR hC [.int x1] hst (c_X4_existing l D cy a0 x1 w (.inl v5) h2) q_404 q_73 q_401 q_403 q_1 h9_X4_existing rfl (fSm.k (fSm.rf w) g3) ⟨Nat.le_of_ble_eq_true rfl, Nat.le_of_ble_eq_true rfl⟩ ⟨Nat.le_of_ble_eq_true rfl, Nat.le_of_ble_eq_true rfl⟩ (Nat.le_of_ble_eq_true rfl) rfl dX4_sharing_2 (fun e4 => ?_)
    refine f_astore_n (L' := [(2, .ref v5), (0, .ref a0), (1, .int x1)]) hC dX4_sharing_5 rfl (by decide) rfl ?_
    refine f_iconst (v := 0) hC dX4_sharing_6 (by decide) ?_
    refine f_istore_n (L' := [(3, .int 0), (2, .ref v5), (0, .ref a0), (1, .int x1)]) hC dX4_sharing_7 rfl (by decide) rfl ?_
    refine f_iconst (v := 0) hC dX4_sharing_8 (by decide) ?_
    refine f_istore (L' := [(4, .int 0), (3, .int 0), (2, .ref v5), (0, .ref a0), (1, .int x1)]) hC dX4_sharing_9 (by decide) rfl ?_
    obtain ⟨x14, h15, hF⟩ := fb_open hF
    have K16 : fAt X 1 6 5 w [(3, .int x14)] [] 55 := by
      refine f_iload_n hC dX4_sharing_55 rfl 0 rfl ?_
      obtain rfl := Option.some.inj hF
      exact f_iretX hC hEn (fSm.rf w) dX4_sharing_56
    refine f_sub (L' := [(0, .ref a0), (2, .ref v5), (3, .int 0), (4, .int 0)]) [3, 2, 1, 0] rfl ?_
    refine fLoop_ind (fun (s8 : Int32 × Int32) => fAt X 1 6 5 w [(0, .ref a0), (2, .ref v5), (3, .int s8.1), (4, .int s8.2)] [] 11) (fun s8 y13 h9 go10 ou11 => ?_) h15
    refine f_iload hC dX4_sharing_11 3 rfl ?_
    refine f_aload_n hC dX4_sharing_13 rfl 0 rfl ?_
    refine f_getR hC 4 0 400 rfl (by decide) iX4 q_260 rfl rfl (fSm.k (fSm.rf w) g3) dX4_sharing_14 ?_
    obtain ⟨g17, h9⟩ := fg_open h9
    refine f_getIN hC 1 1 101 rfl (by decide) iX1 q_219 rfl rfl (fSm.k (fSm.rf w) g17) dX4_sharing_17 ?_
    refine f_icmp_ge hC 55 dX4_sharing_20 (by decide) (fun c18 => ?_) (fun c18 => ?_)
    · replace h9 := fi_pos h9 c18
      obtain rfl := Option.some.inj h9
      obtain rfl := ou11 _ rfl
      refine f_sub (L' := [(3, .int s8.1)]) [2] rfl ?_
      exact K16
    · replace h9 := fi_neg h9 c18
      refine f_aload_n hC dX4_sharing_23 rfl 0 rfl ?_
      refine f_getR hC 4 0 400 rfl (by decide) iX4 q_260 rfl rfl (fSm.k (fSm.rf w) g3) dX4_sharing_24 ?_
      refine f_getRN hC 1 0 100 rfl (by decide) iX1 q_217 rfl rfl (fSm.k (fSm.rf w) g17) dX4_sharing_27 ?_
      refine f_iload hC dX4_sharing_30 3 rfl ?_
      obtain ⟨g19, h9⟩ := fg_open h9
      obtain ⟨g20, h9⟩ := fg_open h9
      refine f_aald1 hC (fSm.k (fSm.rf w) g19) (fSm.v (fSm.rf w) g20) dX4_sharing_32 ?_
      obtain ⟨g21, h9⟩ := fg_open h9
      refine f_getRN hC 2 0 200 rfl (by decide) iX2 q_176 rfl rfl (fSm.k (fSm.rf w) g21) dX4_sharing_33 ?_
      refine f_aload_n hC dX4_sharing_36 rfl 1 rfl ?_
      obtain ⟨g22, h9⟩ := fg_open h9
      refine f_getRN hC 2 0 200 rfl (by decide) iX2 q_176 rfl rfl (fSm.k (fSm.rf w) g22) dX4_sharing_37 ?_
      obtain ⟨g25, h9⟩ := fg_open h9
      obtain ⟨r23, h24, h9⟩ := fb_open h9
      refine f_callVN hC [.ref (gR w 200 v5 0)] (c_X3_isSame l D cy (gR w 200 (gR w 604 (gR w 100 (gR w 400 a0 0) 0) (Int32.toNatClampNeg s8.2)) 0) (gR w 200 v5 0) w r23 h24) q_1271 q_75 q_1268 q_1270 q_60 h9_X3_isSame rfl (fSm.k (fSm.rf w) g25) ⟨Nat.le_of_ble_eq_true rfl, Nat.le_of_ble_eq_true rfl⟩ ⟨Nat.le_of_ble_eq_true rfl, Nat.le_of_ble_eq_true rfl⟩ (Nat.le_of_ble_eq_true rfl) rfl dX4_sharing_40 (fun e26 => ?_)
      refine f_if_eq hC 49 dX4_sharing_43 (by decide) (fun c27 => ?_) (fun c27 => ?_)
      · replace h9 := fi_pos h9 c27
        refine f_iinc (L' := [(4, .int (s8.2 + 1)), (0, .ref a0), (2, .ref v5), (3, .int s8.1)]) hC dX4_sharing_49 3 rfl rfl (by decide) rfl ?_
        refine f_goto hC 11 dX4_sharing_52 (by decide) ?_
        obtain rfl := Option.some.inj h9
        refine f_sub (L' := [(0, .ref a0), (2, .ref v5), (3, .int s8.1), (4, .int (s8.2 + 1))]) [1, 2, 3, 0] rfl ?_
        exact go10 _ rfl
      · replace h9 := fi_neg h9 c27
        refine f_iinc (L' := [(3, .int (s8.1 + 1)), (0, .ref a0), (2, .ref v5), (4, .int s8.2)]) hC dX4_sharing_46 2 rfl rfl (by decide) rfl ?_
        refine f_iinc (L' := [(4, .int (s8.2 + 1)), (3, .int (s8.1 + 1)), (0, .ref a0), (2, .ref v5)]) hC dX4_sharing_49 3 rfl rfl (by decide) rfl ?_
        refine f_goto hC 11 dX4_sharing_52 (by decide) ?_
        obtain rfl := Option.some.inj h9
        refine f_sub (L' := [(0, .ref a0), (2, .ref v5), (3, .int (s8.1 + 1)), (4, .int (s8.2 + 1))]) [2, 3, 1, 0] rfl ?_
        exact go10 _ rfl
  · obtain rfl := Option.some.inj hF
    exact f_callVT hC [.int x1] hEn (fSm.rf w) (Nat.le_of_ble_eq_true rfl) (Nat.le_of_ble_eq_true rfl) (c_X4_existing l D cy a0 x1 w (.inr x6) h2) q_404 q_73 q_401 q_403 q_1 h9_X4_existing rfl (fSm.k (fSm.rf w) g3) ⟨Nat.le_of_ble_eq_true rfl, Nat.le_of_ble_eq_true rfl⟩ ⟨Nat.le_of_ble_eq_true rfl, Nat.le_of_ble_eq_true rfl⟩ (Nat.le_of_ble_eq_true rfl) rfl dX4_sharing_2
