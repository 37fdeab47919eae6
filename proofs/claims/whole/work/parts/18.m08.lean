theorem dX4_undo_0 : decode cX4_undo 0 = .ok (.aload_n 0, 1) := by decide +kernel
theorem dX4_undo_1 : decode cX4_undo 1 = .ok (.getfield 30, 3) := by decide +kernel
theorem dX4_undo_4 : decode cX4_undo 4 = .ok (.ifCond .gt 14, 3) := by decide +kernel
theorem dX4_undo_7 : decode cX4_undo 7 = .ok (.new 325, 3) := by decide +kernel
theorem dX4_undo_10 : decode cX4_undo 10 = .ok (.dup, 1) := by decide +kernel
theorem dX4_undo_11 : decode cX4_undo 11 = .ok (.ldc_w 384, 3) := by decide +kernel
theorem dX4_undo_14 : decode cX4_undo 14 = .ok (.invokespecial 329, 3) := by decide +kernel
theorem dX4_undo_17 : decode cX4_undo 17 = .ok (.athrow, 1) := by decide +kernel
theorem dX4_undo_18 : decode cX4_undo 18 = .ok (.aload_n 0, 1) := by decide +kernel
theorem dX4_undo_19 : decode cX4_undo 19 = .ok (.dup, 1) := by decide +kernel
theorem dX4_undo_20 : decode cX4_undo 20 = .ok (.getfield 30, 3) := by decide +kernel
theorem dX4_undo_23 : decode cX4_undo 23 = .ok (.iconst 1, 1) := by decide +kernel
theorem dX4_undo_24 : decode cX4_undo 24 = .ok (.isub, 1) := by decide +kernel
theorem dX4_undo_25 : decode cX4_undo 25 = .ok (.putfield 30, 3) := by decide +kernel
theorem dX4_undo_28 : decode cX4_undo 28 = .ok (.aload_n 0, 1) := by decide +kernel
theorem dX4_undo_29 : decode cX4_undo 29 = .ok (.getfield 12, 3) := by decide +kernel
theorem dX4_undo_32 : decode cX4_undo 32 = .ok (.aload_n 0, 1) := by decide +kernel
theorem dX4_undo_33 : decode cX4_undo 33 = .ok (.getfield 26, 3) := by decide +kernel
theorem dX4_undo_36 : decode cX4_undo 36 = .ok (.aload_n 0, 1) := by decide +kernel
theorem dX4_undo_37 : decode cX4_undo 37 = .ok (.getfield 30, 3) := by decide +kernel
theorem dX4_undo_40 : decode cX4_undo 40 = .ok (.aaload, 1) := by decide +kernel
theorem dX4_undo_41 : decode cX4_undo 41 = .ok (.invokevirtual 368, 3) := by decide +kernel
theorem dX4_undo_44 : decode cX4_undo 44 = .ok (.aload_n 0, 1) := by decide +kernel
theorem dX4_undo_45 : decode cX4_undo 45 = .ok (.getfield 30, 3) := by decide +kernel
theorem dX4_undo_48 : decode cX4_undo 48 = .ok (.ireturn, 1) := by decide +kernel
theorem h9_X4_undo : yX4_undo.cls ≠ "java/lang/invoke/MethodHandle" ∧ yX4_undo.cls ≠ "java/lang/invoke/VarHandle" ∧ (parseMethodDescriptor yX4_undo.desc).map (fun d => d.parameters.length) = some 0 := by decide +kernel
noncomputable def F_X4_undo (a0 : Nat) (w : FW) : Option ((Int32 ⊕ Nat) × FW) :=
  fg (w.1 a0 = 5) inferInstance ((if 0 < (gI w 405 a0 0) then fg (w.1 (gR w 404 a0 0) = 13) inferInstance (fg (¬ ((gI (sI w 405 a0 0 ((gI w 405 a0 0) - 1)) 405 a0 0) < 0 ∨ w.2.1 (gR w 404 a0 0) ≤ Int32.toNatClampNeg (gI (sI w 405 a0 0 ((gI w 405 a0 0) - 1)) 405 a0 0))) inferInstance (fg (w.1 (gR w 400 a0 0) = 2) inferInstance ((F_X1_take (gR (sI w 405 a0 0 ((gI w 405 a0 0) - 1)) 400 a0 0) (gR (sI w 405 a0 0 ((gI w 405 a0 0) - 1)) 603 (gR (sI w 405 a0 0 ((gI w 405 a0 0) - 1)) 404 a0 0) (Int32.toNatClampNeg (gI (sI w 405 a0 0 ((gI w 405 a0 0) - 1)) 405 a0 0))) (sI w 405 a0 0 ((gI w 405 a0 0) - 1))).bind (fun r5 => some ((.inl (gI r5 405 a0 0)), r5))))) else some (.inr 0, w)))
set_option maxHeartbeats 4000000 in
set_option maxRecDepth 100000 in
theorem c_X4_undo (l : Launch) (D : va_G) (cy : Nat → ClassId) (a0 : Nat) (w : FW) (r : (Int32 ⊕ Nat) × FW) (hF : F_X4_undo a0 w = some r) : fSpecX l D cy yX4_undo cX4_undo 1 (some .int) { frames := 6, cells := 1, slots := 6, locals := 100 } [.ref a0] w r.2 (fOI r.1) := by
  refine f_beginX (by decide +kernel) (Nat.le_of_ble_eq_true rfl) (fun X hC hEn => ?_)
  have hst := f_st hC hEn
  unfold F_X4_undo at hF
  show fAt X 0 0 1 w [(0, .ref a0)] [] 0
  refine f_aload_n hC dX4_undo_0 rfl 0 rfl ?_
  obtain ⟨g1, hF⟩ := fg_open hF
  refine f_getI hC 4 5 405 rfl (by decide) iX4 q_319 rfl rfl (fSm.k (fSm.rf w) g1) dX4_undo_1 ?_
  refine f_if_gt hC 18 dX4_undo_4 (by decide) (fun c2 => ?_) (fun c2 => ?_)
  · replace hF := fi_pos hF c2
    refine f_aload_n hC dX4_undo_18 rfl 0 rfl ?_
    refine f_dup hC dX4_undo_19 rfl ?_
    refine f_getI hC 4 5 405 rfl (by decide) iX4 q_319 rfl rfl (fSm.k (fSm.rf w) g1) dX4_undo_20 ?_
    refine f_iconst (v := 1) hC dX4_undo_23 (by decide) ?_
    refine f_isub hC dX4_undo_24 ?_
    refine f_putI hC 4 5 405 rfl (by decide) iX4 tyX4 tyX4_ok nmX4 q_319 rfl rfl rfl rfl rfl (fSm.k (fSm.rf w) g1) dX4_undo_25 ?_
    refine f_aload_n hC dX4_undo_28 rfl 0 rfl ?_
    refine f_getR hC 4 0 400 rfl (by decide) iX4 q_314 rfl rfl (fSm.k (fSm.rf w) g1) dX4_undo_29 ?_
    refine f_aload_n hC dX4_undo_32 rfl 0 rfl ?_
    refine f_getR hC 4 4 404 rfl (by decide) iX4 q_318 rfl rfl (fSm.k (fSm.rf w) g1) dX4_undo_33 ?_
    refine f_aload_n hC dX4_undo_36 rfl 0 rfl ?_
    refine f_getI hC 4 5 405 rfl (by decide) iX4 q_319 rfl rfl (fSm.k (fSm.rf w) g1) dX4_undo_37 ?_
    obtain ⟨g3, hF⟩ := fg_open hF
    obtain ⟨g4, hF⟩ := fg_open hF
    refine f_aald0 hC (fSm.k (fSm.rf w) g3) (fSm.v (fSm.rf w) g4) dX4_undo_40 ?_
    obtain ⟨g7, hF⟩ := fg_open hF
    obtain ⟨r5, h6, hF⟩ := fb_open hF
    refine f_callVN hC [.ref (gR (sI w 405 a0 0 ((gI w 405 a0 0) - 1)) 603 (gR (sI w 405 a0 0 ((gI w 405 a0 0) - 1)) 404 a0 0) (Int32.toNatClampNeg (gI (sI w 405 a0 0 ((gI w 405 a0 0) - 1)) 405 a0 0)))] (c_X1_take l D cy (gR (sI w 405 a0 0 ((gI w 405 a0 0) - 1)) 400 a0 0) (gR (sI w 405 a0 0 ((gI w 405 a0 0) - 1)) 603 (gR (sI w 405 a0 0 ((gI w 405 a0 0) - 1)) 404 a0 0) (Int32.toNatClampNeg (gI (sI w 405 a0 0 ((gI w 405 a0 0) - 1)) 405 a0 0))) (sI w 405 a0 0 ((gI w 405 a0 0) - 1)) r5 h6) q_379 q_133 q_376 q_378 q_2 h9_X1_take rfl (fSm.k (fSm.rf w) g7) ⟨Nat.le_of_ble_eq_true rfl, Nat.le_of_ble_eq_true rfl⟩ ⟨Nat.le_of_ble_eq_true rfl, Nat.le_of_ble_eq_true rfl⟩ (Nat.le_of_ble_eq_true rfl) rfl dX4_undo_41 (fun e8 => ?_)
    refine f_aload_n hC dX4_undo_44 rfl 0 rfl ?_
    refine f_getI hC 4 5 405 rfl (by decide) iX4 q_319 rfl rfl (fSm.k (fSm.tr e8 (fSm.rf w)) g1) dX4_undo_45 ?_
    obtain rfl := Option.some.inj hF
    refine f_widen (k' := 1) (s' := 6) (Nat.le_of_ble_eq_true rfl) (Nat.le_of_ble_eq_true rfl) ?_
    exact f_iretX hC hEn (fSm.tr e8 (fSm.rf w)) dX4_undo_48
  · replace hF := fi_neg hF c2
    obtain rfl := Option.some.inj hF
    exact f_throwSW hC hEn (fSm.rf w) 39 rfl xf_0 xn_0 q_1071 q_151 rfl xa_RX4_329 xg_RX4_325_329 dX4_undo_7 dX4_undo_10 dX4_undo_11 dX4_undo_14 dX4_undo_17 (Nat.le_of_ble_eq_true rfl) (Nat.le_of_ble_eq_true rfl) (Nat.le_of_ble_eq_true rfl) (Nat.le_of_ble_eq_true rfl) (Nat.le_of_ble_eq_true rfl) (Nat.le_of_ble_eq_true rfl)
theorem dX4_snapshot_0 : decode cX4_snapshot 0 = .ok (.aload_n 0, 1) := by decide +kernel
theorem dX4_snapshot_1 : decode cX4_snapshot 1 = .ok (.getfield 19, 3) := by decide +kernel
theorem dX4_snapshot_4 : decode cX4_snapshot 4 = .ok (.aload_n 0, 1) := by decide +kernel
theorem dX4_snapshot_5 : decode cX4_snapshot 5 = .ok (.getfield 12, 3) := by decide +kernel
theorem dX4_snapshot_8 : decode cX4_snapshot 8 = .ok (.invokevirtual 368, 3) := by decide +kernel
theorem dX4_snapshot_11 : decode cX4_snapshot 11 = .ok (.aload_n 0, 1) := by decide +kernel
theorem dX4_snapshot_12 : decode cX4_snapshot 12 = .ok (.iconst 1, 1) := by decide +kernel
theorem dX4_snapshot_13 : decode cX4_snapshot 13 = .ok (.putfield 22, 3) := by decide +kernel
theorem dX4_snapshot_16 : decode cX4_snapshot 16 = .ok (.aload_n 0, 1) := by decide +kernel
theorem dX4_snapshot_17 : decode cX4_snapshot 17 = .ok (.getfield 12, 3) := by decide +kernel
theorem dX4_snapshot_20 : decode cX4_snapshot 20 = .ok (.getfield 66, 3) := by decide +kernel
theorem dX4_snapshot_23 : decode cX4_snapshot 23 = .ok (.ireturn, 1) := by decide +kernel
theorem h9_X4_snapshot : yX4_snapshot.cls ≠ "java/lang/invoke/MethodHandle" ∧ yX4_snapshot.cls ≠ "java/lang/invoke/VarHandle" ∧ (parseMethodDescriptor yX4_snapshot.desc).map (fun d => d.parameters.length) = some 0 := by decide +kernel
noncomputable def F_X4_snapshot (a0 : Nat) (w : FW) : Option (Int32 × FW) :=
  fg (w.1 a0 = 5) inferInstance (fg (w.1 (gR w 402 a0 0) = 2) inferInstance ((F_X1_take (gR w 402 a0 0) (gR w 400 a0 0) w).bind (fun r2 => fg (w.1 (gR r2 400 a0 0) = 2) inferInstance (some ((gI (sI r2 403 a0 0 1) 101 (gR (sI r2 403 a0 0 1) 400 a0 0) 0), (sI r2 403 a0 0 1))))))
set_option maxHeartbeats 4000000 in
set_option maxRecDepth 100000 in
theorem c_X4_snapshot (l : Launch) (D : va_G) (cy : Nat → ClassId) (a0 : Nat) (w : FW) (r : Int32 × FW) (hF : F_X4_snapshot a0 w = some r) : fSpec l D cy yX4_snapshot cX4_snapshot 1 (some .int) { frames := 3, cells := 0, slots := 0, locals := 65 } [.ref a0] w r.2 (some (.int r.1)) := by
  refine f_begin (by decide +kernel) (Nat.le_of_ble_eq_true rfl) (fun X hC hEn => ?_)
  unfold F_X4_snapshot at hF
  show fAt X 0 0 1 w [(0, .ref a0)] [] 0
  refine f_aload_n hC dX4_snapshot_0 rfl 0 rfl ?_
  obtain ⟨g1, hF⟩ := fg_open hF
  refine f_getR hC 4 2 402 rfl (by decide) iX4 q_316 rfl rfl (fSm.k (fSm.rf w) g1) dX4_snapshot_1 ?_
  refine f_aload_n hC dX4_snapshot_4 rfl 0 rfl ?_
  refine f_getR hC 4 0 400 rfl (by decide) iX4 q_314 rfl rfl (fSm.k (fSm.rf w) g1) dX4_snapshot_5 ?_
  obtain ⟨g4, hF⟩ := fg_open hF
  obtain ⟨r2, h3, hF⟩ := fb_open hF
  refine f_callVN hC [.ref (gR w 400 a0 0)] (c_X1_take l D cy (gR w 402 a0 0) (gR w 400 a0 0) w r2 h3) q_379 q_133 q_376 q_378 q_2 h9_X1_take rfl (fSm.k (fSm.rf w) g4) ⟨Nat.le_of_ble_eq_true rfl, Nat.le_of_ble_eq_true rfl⟩ ⟨Nat.le_of_ble_eq_true rfl, Nat.le_of_ble_eq_true rfl⟩ (Nat.le_of_ble_eq_true rfl) rfl dX4_snapshot_8 (fun e5 => ?_)
  refine f_aload_n hC dX4_snapshot_11 rfl 0 rfl ?_
  refine f_iconst (v := 1) hC dX4_snapshot_12 (by decide) ?_
  refine f_putI hC 4 3 403 rfl (by decide) iX4 tyX4 tyX4_ok nmX4 q_317 rfl rfl rfl (nar_z (by decide)) (fit_z (by decide)) (fSm.k (fSm.tr e5 (fSm.rf w)) g1) dX4_snapshot_13 ?_
  refine f_aload_n hC dX4_snapshot_16 rfl 0 rfl ?_
  refine f_getR hC 4 0 400 rfl (by decide) iX4 q_314 rfl rfl (fSm.k (fSm.tr e5 (fSm.rf w)) g1) dX4_snapshot_17 ?_
  obtain ⟨g6, hF⟩ := fg_open hF
  refine f_getIN hC 1 1 101 rfl (by decide) iX1 q_273 rfl rfl (fSm.k (fSm.tr e5 (fSm.rf w)) g6) dX4_snapshot_20 ?_
  obtain rfl := Option.some.inj hF
  exact f_iret hC hEn (fSm.tr e5 (fSm.rf w)) dX4_snapshot_23
theorem dX4_restore_0 : decode cX4_restore 0 = .ok (.aload_n 0, 1) := by decide +kernel
theorem dX4_restore_1 : decode cX4_restore 1 = .ok (.getfield 22, 3) := by decide +kernel
theorem dX4_restore_4 : decode cX4_restore 4 = .ok (.ifCond .ne 14, 3) := by decide +kernel
theorem dX4_restore_7 : decode cX4_restore 7 = .ok (.new 325, 3) := by decide +kernel
theorem dX4_restore_10 : decode cX4_restore 10 = .ok (.dup, 1) := by decide +kernel
theorem dX4_restore_11 : decode cX4_restore 11 = .ok (.ldc_w 386, 3) := by decide +kernel
theorem dX4_restore_14 : decode cX4_restore 14 = .ok (.invokespecial 329, 3) := by decide +kernel
theorem dX4_restore_17 : decode cX4_restore 17 = .ok (.athrow, 1) := by decide +kernel
theorem dX4_restore_18 : decode cX4_restore 18 = .ok (.aload_n 0, 1) := by decide +kernel
theorem dX4_restore_19 : decode cX4_restore 19 = .ok (.getfield 12, 3) := by decide +kernel
theorem dX4_restore_22 : decode cX4_restore 22 = .ok (.aload_n 0, 1) := by decide +kernel
theorem dX4_restore_23 : decode cX4_restore 23 = .ok (.getfield 19, 3) := by decide +kernel
theorem dX4_restore_26 : decode cX4_restore 26 = .ok (.invokevirtual 368, 3) := by decide +kernel
theorem dX4_restore_29 : decode cX4_restore 29 = .ok (.aload_n 0, 1) := by decide +kernel
theorem dX4_restore_30 : decode cX4_restore 30 = .ok (.iconst 0, 1) := by decide +kernel
theorem dX4_restore_31 : decode cX4_restore 31 = .ok (.putfield 30, 3) := by decide +kernel
theorem dX4_restore_34 : decode cX4_restore 34 = .ok (.aload_n 0, 1) := by decide +kernel
theorem dX4_restore_35 : decode cX4_restore 35 = .ok (.getfield 12, 3) := by decide +kernel
theorem dX4_restore_38 : decode cX4_restore 38 = .ok (.getfield 66, 3) := by decide +kernel
theorem dX4_restore_41 : decode cX4_restore 41 = .ok (.ireturn, 1) := by decide +kernel
theorem h9_X4_restore : yX4_restore.cls ≠ "java/lang/invoke/MethodHandle" ∧ yX4_restore.cls ≠ "java/lang/invoke/VarHandle" ∧ (parseMethodDescriptor yX4_restore.desc).map (fun d => d.parameters.length) = some 0 := by decide +kernel
noncomputable def F_X4_restore (a0 : Nat) (w : FW) : Option ((Int32 ⊕ Nat) × FW) :=
  fg (w.1 a0 = 5) inferInstance ((if (gI w 403 a0 0) = 0 then some (.inr 0, w) else fg (w.1 (gR w 400 a0 0) = 2) inferInstance ((F_X1_take (gR w 400 a0 0) (gR w 402 a0 0) w).bind (fun r3 => fg (w.1 (gR r3 400 a0 0) = 2) inferInstance (some ((.inl (gI (sI r3 405 a0 0 0) 101 (gR (sI r3 405 a0 0 0) 400 a0 0) 0)), (sI r3 405 a0 0 0)))))))
set_option maxHeartbeats 4000000 in
set_option maxRecDepth 100000 in
theorem c_X4_restore (l : Launch) (D : va_G) (cy : Nat → ClassId) (a0 : Nat) (w : FW) (r : (Int32 ⊕ Nat) × FW) (hF : F_X4_restore a0 w = some r) : fSpecX l D cy yX4_restore cX4_restore 1 (some .int) { frames := 6, cells := 1, slots := 6, locals := 100 } [.ref a0] w r.2 (fOI r.1) := by
  refine f_beginX (by decide +kernel) (Nat.le_of_ble_eq_true rfl) (fun X hC hEn => ?_)
  have hst := f_st hC hEn
  unfold F_X4_restore at hF
  show fAt X 0 0 1 w [(0, .ref a0)] [] 0
  refine f_aload_n hC dX4_restore_0 rfl 0 rfl ?_
  obtain ⟨g1, hF⟩ := fg_open hF
  refine f_getI hC 4 3 403 rfl (by decide) iX4 q_317 rfl rfl (fSm.k (fSm.rf w) g1) dX4_restore_1 ?_
  refine f_if_ne hC 18 dX4_restore_4 (by decide) (fun c2 => ?_) (fun c2 => ?_)
  · replace hF := fi_neg hF c2
    refine f_aload_n hC dX4_restore_18 rfl 0 rfl ?_
    refine f_getR hC 4 0 400 rfl (by decide) iX4 q_314 rfl rfl (fSm.k (fSm.rf w) g1) dX4_restore_19 ?_
    refine f_aload_n hC dX4_restore_22 rfl 0 rfl ?_
    refine f_getR hC 4 2 402 rfl (by decide) iX4 q_316 rfl rfl (fSm.k (fSm.rf w) g1) dX4_restore_23 ?_
    obtain ⟨g5, hF⟩ := fg_open hF
    obtain ⟨r3, h4, hF⟩ := fb_open hF
    refine f_callVN hC [.ref (gR w 402 a0 0)] (c_X1_take l D cy (gR w 400 a0 0) (gR w 402 a0 0) w r3 h4) q_379 q_133 q_376 q_378 q_2 h9_X1_take rfl (fSm.k (fSm.rf w) g5) ⟨Nat.le_of_ble_eq_true rfl, Nat.le_of_ble_eq_true rfl⟩ ⟨Nat.le_of_ble_eq_true rfl, Nat.le_of_ble_eq_true rfl⟩ (Nat.le_of_ble_eq_true rfl) rfl dX4_restore_26 (fun e6 => ?_)
    refine f_aload_n hC dX4_restore_29 rfl 0 rfl ?_
    refine f_iconst (v := 0) hC dX4_restore_30 (by decide) ?_
    refine f_putI hC 4 5 405 rfl (by decide) iX4 tyX4 tyX4_ok nmX4 q_319 rfl rfl rfl rfl rfl (fSm.k (fSm.tr e6 (fSm.rf w)) g1) dX4_restore_31 ?_
    refine f_aload_n hC dX4_restore_34 rfl 0 rfl ?_
    refine f_getR hC 4 0 400 rfl (by decide) iX4 q_314 rfl rfl (fSm.k (fSm.tr e6 (fSm.rf w)) g1) dX4_restore_35 ?_
    obtain ⟨g7, hF⟩ := fg_open hF
    refine f_getIN hC 1 1 101 rfl (by decide) iX1 q_273 rfl rfl (fSm.k (fSm.tr e6 (fSm.rf w)) g7) dX4_restore_38 ?_
    obtain rfl := Option.some.inj hF
    refine f_widen (k' := 1) (s' := 6) (Nat.le_of_ble_eq_true rfl) (Nat.le_of_ble_eq_true rfl) ?_
    exact f_iretX hC hEn (fSm.tr e6 (fSm.rf w)) dX4_restore_41
  · replace hF := fi_pos hF c2
    obtain rfl := Option.some.inj hF
    exact f_throwSW hC hEn (fSm.rf w) 40 rfl xf_0 xn_0 q_1071 q_151 rfl xa_RX4_329 xg_RX4_325_329 dX4_restore_7 dX4_restore_10 dX4_restore_11 dX4_restore_14 dX4_restore_17 (Nat.le_of_ble_eq_true rfl) (Nat.le_of_ble_eq_true rfl) (Nat.le_of_ble_eq_true rfl) (Nat.le_of_ble_eq_true rfl) (Nat.le_of_ble_eq_true rfl) (Nat.le_of_ble_eq_true rfl)
theorem dX5_thrown_0 : decode cX5_thrown 0 = .ok (.aload_n 0, 1) := by decide +kernel
theorem dX5_thrown_1 : decode cX5_thrown 1 = .ok (.getfield 41, 3) := by decide +kernel
theorem dX5_thrown_4 : decode cX5_thrown 4 = .ok (.ireturn, 1) := by decide +kernel
theorem h9_X5_thrown : yX5_thrown.cls ≠ "java/lang/invoke/MethodHandle" ∧ yX5_thrown.cls ≠ "java/lang/invoke/VarHandle" ∧ (parseMethodDescriptor yX5_thrown.desc).map (fun d => d.parameters.length) = some 0 := by decide +kernel
noncomputable def F_X5_thrown (a0 : Nat) (w : FW) : Option (Int32) :=
  fg (w.1 a0 = 6) inferInstance (some (gI w 500 a0 0))
set_option maxHeartbeats 4000000 in
set_option maxRecDepth 100000 in
theorem c_X5_thrown (l : Launch) (D : va_G) (cy : Nat → ClassId) (a0 : Nat) (w : FW) (r : Int32) (hF : F_X5_thrown a0 w = some r) : fSpec l D cy yX5_thrown cX5_thrown 1 (some .int) { frames := 0, cells := 0, slots := 0, locals := 0 } [.ref a0] w w (some (.int r)) := by
  refine f_begin (by decide +kernel) (Nat.le_of_ble_eq_true rfl) (fun X hC hEn => ?_)
  unfold F_X5_thrown at hF
  show fAt X 0 0 1 w [(0, .ref a0)] [] 0
  refine f_aload_n hC dX5_thrown_0 rfl 0 rfl ?_
  obtain ⟨g1, hF⟩ := fg_open hF
  refine f_getI hC 5 0 500 rfl (by decide) iX5 q_1259 rfl rfl (fSm.k (fSm.rf w) g1) dX5_thrown_1 ?_
  obtain rfl := Option.some.inj hF
  exact f_iret hC hEn (fSm.rf w) dX5_thrown_4
theorem dX5_fails_0 : decode cX5_fails 0 = .ok (.aload_n 0, 1) := by decide +kernel
theorem dX5_fails_1 : decode cX5_fails 1 = .ok (.iload_n 1, 1) := by decide +kernel
theorem dX5_fails_2 : decode cX5_fails 2 = .ok (.putfield 41, 3) := by decide +kernel
theorem dX5_fails_5 : decode cX5_fails 5 = .ok (.iconst 0, 1) := by decide +kernel
theorem dX5_fails_6 : decode cX5_fails 6 = .ok (.ireturn, 1) := by decide +kernel
theorem h9_X5_fails : yX5_fails.cls ≠ "java/lang/invoke/MethodHandle" ∧ yX5_fails.cls ≠ "java/lang/invoke/VarHandle" ∧ (parseMethodDescriptor yX5_fails.desc).map (fun d => d.parameters.length) = some 1 := by decide +kernel
noncomputable def F_X5_fails (a0 : Nat) (x1 : Int32) (w : FW) : Option (Int32 × FW) :=
  fg (w.1 a0 = 6) inferInstance (some (0, (sI w 500 a0 0 x1)))
set_option maxHeartbeats 4000000 in
set_option maxRecDepth 100000 in
theorem c_X5_fails (l : Launch) (D : va_G) (cy : Nat → ClassId) (a0 : Nat) (x1 : Int32) (w : FW) (r : Int32 × FW) (hF : F_X5_fails a0 x1 w = some r) : fSpec l D cy yX5_fails cX5_fails 2 (some .int) { frames := 0, cells := 0, slots := 0, locals := 0 } [.ref a0, .int x1] w r.2 (some (.int r.1)) := by
  refine f_begin (by decide +kernel) (Nat.le_of_ble_eq_true rfl) (fun X hC hEn => ?_)
  unfold F_X5_fails at hF
  show fAt X 0 0 2 w [(0, .ref a0), (1, .int x1)] [] 0
  refine f_aload_n hC dX5_fails_0 rfl 0 rfl ?_
  refine f_iload_n hC dX5_fails_1 rfl 1 rfl ?_
  obtain ⟨g1, hF⟩ := fg_open hF
  refine f_putI hC 5 0 500 rfl (by decide) iX5 tyX5 tyX5_ok nmX5 q_1259 rfl rfl rfl rfl rfl (fSm.k (fSm.rf w) g1) dX5_fails_2 ?_
  refine f_iconst (v := 0) hC dX5_fails_5 (by decide) ?_
  obtain rfl := Option.some.inj hF
  exact f_iret hC hEn (fSm.rf w) dX5_fails_6
theorem dX5_in_0 : decode cX5_in 0 = .ok (.iload_n 0, 1) := by decide +kernel
theorem dX5_in_1 : decode cX5_in 1 = .ok (.iload_n 1, 1) := by decide +kernel
theorem dX5_in_2 : decode cX5_in 2 = .ok (.if_icmp .lt 12, 3) := by decide +kernel
theorem dX5_in_5 : decode cX5_in 5 = .ok (.iload_n 0, 1) := by decide +kernel
theorem dX5_in_6 : decode cX5_in 6 = .ok (.iload_n 2, 1) := by decide +kernel
theorem dX5_in_7 : decode cX5_in 7 = .ok (.if_icmp .gt 7, 3) := by decide +kernel
theorem dX5_in_10 : decode cX5_in 10 = .ok (.iconst 1, 1) := by decide +kernel
theorem dX5_in_11 : decode cX5_in 11 = .ok (.goto 4, 3) := by decide +kernel
theorem dX5_in_14 : decode cX5_in 14 = .ok (.iconst 0, 1) := by decide +kernel
theorem dX5_in_15 : decode cX5_in 15 = .ok (.ireturn, 1) := by decide +kernel
theorem h9_X5_in : yX5_in.cls ≠ "java/lang/invoke/MethodHandle" ∧ yX5_in.cls ≠ "java/lang/invoke/VarHandle" ∧ (parseMethodDescriptor yX5_in.desc).map (fun d => d.parameters.length) = some 3 := by decide +kernel
noncomputable def F_X5_in (x1 : Int32) (x2 : Int32) (x3 : Int32) (w : FW) : Option (Int32) :=
  (if x1 < x2 then some 0 else (if x3 < x1 then some 0 else some 1))
set_option maxHeartbeats 4000000 in
set_option maxRecDepth 100000 in
theorem c_X5_in (l : Launch) (D : va_G) (cy : Nat → ClassId) (x1 : Int32) (x2 : Int32) (x3 : Int32) (w : FW) (r : Int32) (hF : F_X5_in x1 x2 x3 w = some r) : fSpec l D cy yX5_in cX5_in 3 (some .boolean) { frames := 0, cells := 0, slots := 0, locals := 0 } [.int x1, .int x2, .int x3] w w (some (.int r)) := by
  refine f_begin (by decide +kernel) (Nat.le_of_ble_eq_true rfl) (fun X hC hEn => ?_)
  unfold F_X5_in at hF
  show fAt X 0 0 3 w [(0, .int x1), (1, .int x2), (2, .int x3)] [] 0
  refine f_iload_n hC dX5_in_0 rfl 0 rfl ?_
  refine f_iload_n hC dX5_in_1 rfl 1 rfl ?_
  refine f_icmp_lt hC 14 dX5_in_2 (by decide) (fun c1 => ?_) (fun c1 => ?_)
  · replace hF := fi_pos hF c1
    refine f_iconst (v := 0) hC dX5_in_14 (by decide) ?_
    obtain rfl := Option.some.inj hF
    exact f_zret hC hEn (fSm.rf w) (nar_z (by decide)) dX5_in_15
  · replace hF := fi_neg hF c1
    refine f_iload_n hC dX5_in_5 rfl 0 rfl ?_
    refine f_iload_n hC dX5_in_6 rfl 2 rfl ?_
    refine f_icmp_gt hC 14 dX5_in_7 (by decide) (fun c2 => ?_) (fun c2 => ?_)
    · replace hF := fi_pos hF c2
      refine f_iconst (v := 0) hC dX5_in_14 (by decide) ?_
      obtain rfl := Option.some.inj hF
      exact f_zret hC hEn (fSm.rf w) (nar_z (by decide)) dX5_in_15
    · replace hF := fi_neg hF c2
      refine f_iconst (v := 1) hC dX5_in_10 (by decide) ?_
      refine f_goto hC 15 dX5_in_11 (by decide) ?_
      obtain rfl := Option.some.inj hF
      exact f_zret hC hEn (fSm.rf w) (nar_z (by decide)) dX5_in_15
theorem dX5_remembers_0 : decode cX5_remembers 0 = .ok (.aload_n 0, 1) := by decide +kernel
theorem dX5_remembers_1 : decode cX5_remembers 1 = .ok (.iconst 0, 1) := by decide +kernel
theorem dX5_remembers_2 : decode cX5_remembers 2 = .ok (.putfield 41, 3) := by decide +kernel
theorem dX5_remembers_5 : decode cX5_remembers 5 = .ok (.iconst 0, 1) := by decide +kernel
theorem dX5_remembers_6 : decode cX5_remembers 6 = .ok (.istore_n 1, 1) := by decide +kernel
theorem dX5_remembers_7 : decode cX5_remembers 7 = .ok (.iload_n 1, 1) := by decide +kernel
theorem dX5_remembers_8 : decode cX5_remembers 8 = .ok (.sipush 177, 3) := by decide +kernel
theorem dX5_remembers_11 : decode cX5_remembers 11 = .ok (.if_icmp .ge 21, 3) := by decide +kernel
theorem dX5_remembers_14 : decode cX5_remembers 14 = .ok (.aload_n 0, 1) := by decide +kernel
theorem dX5_remembers_15 : decode cX5_remembers 15 = .ok (.getfield 13, 3) := by decide +kernel
theorem dX5_remembers_18 : decode cX5_remembers 18 = .ok (.iload_n 1, 1) := by decide +kernel
theorem dX5_remembers_19 : decode cX5_remembers 19 = .ok (.aload_n 0, 1) := by decide +kernel
theorem dX5_remembers_20 : decode cX5_remembers 20 = .ok (.getfield 7, 3) := by decide +kernel
theorem dX5_remembers_23 : decode cX5_remembers 23 = .ok (.iload_n 1, 1) := by decide +kernel
theorem dX5_remembers_24 : decode cX5_remembers 24 = .ok (.iaload, 1) := by decide +kernel
theorem dX5_remembers_25 : decode cX5_remembers 25 = .ok (.iastore, 1) := by decide +kernel
theorem dX5_remembers_26 : decode cX5_remembers 26 = .ok (.iinc 1 1, 3) := by decide +kernel
theorem dX5_remembers_29 : decode cX5_remembers 29 = .ok (.goto (-22), 3) := by decide +kernel
theorem dX5_remembers_32 : decode cX5_remembers 32 = .ok (.return_, 1) := by decide +kernel
theorem h9_X5_remembers : yX5_remembers.cls ≠ "java/lang/invoke/MethodHandle" ∧ yX5_remembers.cls ≠ "java/lang/invoke/VarHandle" ∧ (parseMethodDescriptor yX5_remembers.desc).map (fun d => d.parameters.length) = some 0 := by decide +kernel
noncomputable def F_X5_remembers (a0 : Nat) (w : FW) : Option (FW) :=
  fg (w.1 a0 = 6) inferInstance ((fLoop (σ := Int32 × FW) (ρ := FW) (fun s2 => (if 177 ≤ s2.1 then some (.inr s2.2) else fg (w.1 (gR s2.2 501 a0 0) = 11) inferInstance (fg (¬ (s2.1 < 0 ∨ w.2.1 (gR s2.2 501 a0 0) ≤ Int32.toNatClampNeg s2.1)) inferInstance (fg (w.1 (gR s2.2 502 a0 0) = 11) inferInstance (fg (¬ (s2.1 < 0 ∨ w.2.1 (gR s2.2 502 a0 0) ≤ Int32.toNatClampNeg s2.1)) inferInstance (some (.inl ((s2.1 + 1), (sI s2.2 601 (gR s2.2 502 a0 0) (Int32.toNatClampNeg s2.1) (gI s2.2 601 (gR s2.2 501 a0 0) (Int32.toNatClampNeg s2.1))))))))))) (0, (sI w 500 a0 0 0))).bind (fun x8 => some x8))
set_option maxHeartbeats 4000000 in
set_option maxRecDepth 100000 in
theorem c_X5_remembers (l : Launch) (D : va_G) (cy : Nat → ClassId) (a0 : Nat) (w : FW) (r : FW) (hF : F_X5_remembers a0 w = some r) : fSpec l D cy yX5_remembers cX5_remembers 2 none { frames := 0, cells := 0, slots := 0, locals := 0 } [.ref a0] w r none := by
  refine f_begin (by decide +kernel) (Nat.le_of_ble_eq_true rfl) (fun X hC hEn => ?_)
  unfold F_X5_remembers at hF
  show fAt X 0 0 2 w [(0, .ref a0)] [] 0
  refine f_aload_n hC dX5_remembers_0 rfl 0 rfl ?_
  refine f_iconst (v := 0) hC dX5_remembers_1 (by decide) ?_
  obtain ⟨g1, hF⟩ := fg_open hF
  refine f_putI hC 5 0 500 rfl (by decide) iX5 tyX5 tyX5_ok nmX5 q_1259 rfl rfl rfl rfl rfl (fSm.k (fSm.rf w) g1) dX5_remembers_2 ?_
  refine f_iconst (v := 0) hC dX5_remembers_5 (by decide) ?_
  refine f_istore_n (L' := [(1, .int 0), (0, .ref a0)]) hC dX5_remembers_6 rfl (by decide) rfl ?_
  obtain ⟨x8, h9, hF⟩ := fb_open hF
  have K10 : fSm x8 w → fAt X 0 0 2 x8 [] [] 32 := by
    intro p6
    obtain rfl := Option.some.inj hF
    exact f_vret hC hEn p6 dX5_remembers_32
  refine f_sub (L' := [(0, .ref a0), (1, .int 0)]) [1, 0] rfl ?_
  refine fLoop_ind (fun (s2 : Int32 × FW) => fSm s2.2 w → fAt X 0 0 2 s2.2 [(0, .ref a0), (1, .int s2.1)] [] 7) (fun s2 y7 h3 go4 ou5 => ?_) h9 (fSm.rf w)
  intro p6
  refine f_iload_n hC dX5_remembers_7 rfl 1 rfl ?_
  refine f_sipush (v := 177) hC dX5_remembers_8 (by decide) ?_
  refine f_icmp_ge hC 32 dX5_remembers_11 (by decide) (fun c11 => ?_) (fun c11 => ?_)
  · replace h3 := fi_pos h3 c11
    obtain rfl := Option.some.inj h3
    obtain rfl := ou5 _ rfl
    refine f_sub (L' := []) [] rfl ?_
    exact K10 p6
  · replace h3 := fi_neg h3 c11
    refine f_aload_n hC dX5_remembers_14 rfl 0 rfl ?_
    refine f_getR hC 5 2 502 rfl (by decide) iX5 q_1261 rfl rfl (fSm.k p6 g1) dX5_remembers_15 ?_
    refine f_iload_n hC dX5_remembers_18 rfl 1 rfl ?_
    refine f_aload_n hC dX5_remembers_19 rfl 0 rfl ?_
    refine f_getR hC 5 1 501 rfl (by decide) iX5 q_1260 rfl rfl (fSm.k p6 g1) dX5_remembers_20 ?_
    refine f_iload_n hC dX5_remembers_23 rfl 1 rfl ?_
    obtain ⟨g12, h3⟩ := fg_open h3
    obtain ⟨g13, h3⟩ := fg_open h3
    refine f_iald hC (fSm.k p6 g12) (fSm.v p6 g13) dX5_remembers_24 ?_
    obtain ⟨g14, h3⟩ := fg_open h3
    obtain ⟨g15, h3⟩ := fg_open h3
    refine f_iast hC (fSm.k p6 g14) (fSm.v p6 g15) dX5_remembers_25 ?_
    refine f_iinc (L' := [(1, .int (s2.1 + 1)), (0, .ref a0)]) hC dX5_remembers_26 1 rfl rfl (by decide) rfl ?_
    refine f_goto hC 7 dX5_remembers_29 (by decide) ?_
    obtain rfl := Option.some.inj h3
    refine f_sub (L' := [(0, .ref a0), (1, .int (s2.1 + 1))]) [1, 0] rfl ?_
    exact go4 _ rfl p6
theorem dX5_changed_0 : decode cX5_changed 0 = .ok (.aload_n 0, 1) := by decide +kernel
theorem dX5_changed_1 : decode cX5_changed 1 = .ok (.getfield 44, 3) := by decide +kernel
theorem dX5_changed_4 : decode cX5_changed 4 = .ok (.bipush 8, 2) := by decide +kernel
theorem dX5_changed_6 : decode cX5_changed 6 = .ok (.if_icmp .ne 37, 3) := by decide +kernel
theorem dX5_changed_9 : decode cX5_changed 9 = .ok (.iconst 0, 1) := by decide +kernel
theorem dX5_changed_10 : decode cX5_changed 10 = .ok (.istore_n 2, 1) := by decide +kernel
theorem dX5_changed_11 : decode cX5_changed 11 = .ok (.iload_n 2, 1) := by decide +kernel
theorem dX5_changed_12 : decode cX5_changed 12 = .ok (.sipush 1239, 3) := by decide +kernel
theorem dX5_changed_15 : decode cX5_changed 15 = .ok (.if_icmp .ge 25, 3) := by decide +kernel
theorem dX5_changed_18 : decode cX5_changed 18 = .ok (.aload_n 0, 1) := by decide +kernel
theorem dX5_changed_19 : decode cX5_changed 19 = .ok (.getfield 19, 3) := by decide +kernel
theorem dX5_changed_22 : decode cX5_changed 22 = .ok (.iload_n 2, 1) := by decide +kernel
theorem dX5_changed_23 : decode cX5_changed 23 = .ok (.aload_n 0, 1) := by decide +kernel
theorem dX5_changed_24 : decode cX5_changed 24 = .ok (.getfield 19, 3) := by decide +kernel
theorem dX5_changed_27 : decode cX5_changed 27 = .ok (.iload_n 2, 1) := by decide +kernel
theorem dX5_changed_28 : decode cX5_changed 28 = .ok (.sipush 177, 3) := by decide +kernel
theorem dX5_changed_31 : decode cX5_changed 31 = .ok (.iadd, 1) := by decide +kernel
theorem dX5_changed_32 : decode cX5_changed 32 = .ok (.iaload, 1) := by decide +kernel
theorem dX5_changed_33 : decode cX5_changed 33 = .ok (.iastore, 1) := by decide +kernel
theorem dX5_changed_34 : decode cX5_changed 34 = .ok (.iinc 2 1, 3) := by decide +kernel
theorem dX5_changed_37 : decode cX5_changed 37 = .ok (.goto (-26), 3) := by decide +kernel
theorem dX5_changed_40 : decode cX5_changed 40 = .ok (.goto 13, 3) := by decide +kernel
theorem dX5_changed_43 : decode cX5_changed 43 = .ok (.aload_n 0, 1) := by decide +kernel
theorem dX5_changed_44 : decode cX5_changed 44 = .ok (.dup, 1) := by decide +kernel
theorem dX5_changed_45 : decode cX5_changed 45 = .ok (.getfield 44, 3) := by decide +kernel
theorem dX5_changed_48 : decode cX5_changed 48 = .ok (.iconst 1, 1) := by decide +kernel
theorem dX5_changed_49 : decode cX5_changed 49 = .ok (.iadd, 1) := by decide +kernel
theorem dX5_changed_50 : decode cX5_changed 50 = .ok (.putfield 44, 3) := by decide +kernel
theorem dX5_changed_53 : decode cX5_changed 53 = .ok (.iconst 0, 1) := by decide +kernel
theorem dX5_changed_54 : decode cX5_changed 54 = .ok (.istore_n 2, 1) := by decide +kernel
theorem dX5_changed_55 : decode cX5_changed 55 = .ok (.iload_n 2, 1) := by decide +kernel
theorem dX5_changed_56 : decode cX5_changed 56 = .ok (.sipush 177, 3) := by decide +kernel
theorem dX5_changed_59 : decode cX5_changed 59 = .ok (.if_icmp .ge 32, 3) := by decide +kernel
theorem dX5_changed_62 : decode cX5_changed 62 = .ok (.aload_n 0, 1) := by decide +kernel
theorem dX5_changed_63 : decode cX5_changed 63 = .ok (.getfield 19, 3) := by decide +kernel
theorem dX5_changed_66 : decode cX5_changed 66 = .ok (.sipush 177, 3) := by decide +kernel
theorem dX5_changed_69 : decode cX5_changed 69 = .ok (.aload_n 0, 1) := by decide +kernel
theorem dX5_changed_70 : decode cX5_changed 70 = .ok (.getfield 44, 3) := by decide +kernel
theorem dX5_changed_73 : decode cX5_changed 73 = .ok (.iconst 1, 1) := by decide +kernel
theorem dX5_changed_74 : decode cX5_changed 74 = .ok (.isub, 1) := by decide +kernel
theorem dX5_changed_75 : decode cX5_changed 75 = .ok (.imul, 1) := by decide +kernel
theorem dX5_changed_76 : decode cX5_changed 76 = .ok (.iload_n 2, 1) := by decide +kernel
theorem dX5_changed_77 : decode cX5_changed 77 = .ok (.iadd, 1) := by decide +kernel
theorem dX5_changed_78 : decode cX5_changed 78 = .ok (.aload_n 0, 1) := by decide +kernel
theorem dX5_changed_79 : decode cX5_changed 79 = .ok (.getfield 13, 3) := by decide +kernel
theorem dX5_changed_82 : decode cX5_changed 82 = .ok (.iload_n 2, 1) := by decide +kernel
theorem dX5_changed_83 : decode cX5_changed 83 = .ok (.iaload, 1) := by decide +kernel
theorem dX5_changed_84 : decode cX5_changed 84 = .ok (.iastore, 1) := by decide +kernel
theorem dX5_changed_85 : decode cX5_changed 85 = .ok (.iinc 2 1, 3) := by decide +kernel
theorem dX5_changed_88 : decode cX5_changed 88 = .ok (.goto (-33), 3) := by decide +kernel
theorem dX5_changed_91 : decode cX5_changed 91 = .ok (.iload_n 1, 1) := by decide +kernel
theorem dX5_changed_92 : decode cX5_changed 92 = .ok (.ireturn, 1) := by decide +kernel
theorem h9_X5_changed : yX5_changed.cls ≠ "java/lang/invoke/MethodHandle" ∧ yX5_changed.cls ≠ "java/lang/invoke/VarHandle" ∧ (parseMethodDescriptor yX5_changed.desc).map (fun d => d.parameters.length) = some 1 := by decide +kernel
noncomputable def F_X5_changed (a0 : Nat) (x1 : Int32) (w : FW) : Option (Int32 × FW) :=
  fg (w.1 a0 = 6) inferInstance (((if (gI w 505 a0 0) = 8 then (fLoop (σ := Int32 × FW) (ρ := FW) (fun s21 => (if 1239 ≤ s21.1 then some (.inr s21.2) else fg (w.1 (gR s21.2 504 a0 0) = 11) inferInstance (fg (¬ ((s21.1 + 177) < 0 ∨ w.2.1 (gR s21.2 504 a0 0) ≤ Int32.toNatClampNeg (s21.1 + 177))) inferInstance (fg (¬ (s21.1 < 0 ∨ w.2.1 (gR s21.2 504 a0 0) ≤ Int32.toNatClampNeg s21.1)) inferInstance (some (.inl ((s21.1 + 1), (sI s21.2 601 (gR s21.2 504 a0 0) (Int32.toNatClampNeg s21.1) (gI s21.2 601 (gR s21.2 504 a0 0) (Int32.toNatClampNeg (s21.1 + 177))))))))))) (0, w)).bind (fun x27 => some x27) else some (sI w 505 a0 0 ((gI w 505 a0 0) + 1))) : Option (FW)).bind (fun x2 => (fLoop (σ := Int32 × FW) (ρ := FW) (fun s6 => (if 177 ≤ s6.1 then some (.inr s6.2) else fg (w.1 (gR s6.2 502 a0 0) = 11) inferInstance (fg (¬ (s6.1 < 0 ∨ w.2.1 (gR s6.2 502 a0 0) ≤ Int32.toNatClampNeg s6.1)) inferInstance (fg (w.1 (gR s6.2 504 a0 0) = 11) inferInstance (fg (¬ (((177 * ((gI s6.2 505 a0 0) - 1)) + s6.1) < 0 ∨ w.2.1 (gR s6.2 504 a0 0) ≤ Int32.toNatClampNeg ((177 * ((gI s6.2 505 a0 0) - 1)) + s6.1))) inferInstance (some (.inl ((s6.1 + 1), (sI s6.2 601 (gR s6.2 504 a0 0) (Int32.toNatClampNeg ((177 * ((gI s6.2 505 a0 0) - 1)) + s6.1)) (gI s6.2 601 (gR s6.2 502 a0 0) (Int32.toNatClampNeg s6.1))))))))))) (0, x2)).bind (fun x12 => some (x1, x12))))
set_option maxHeartbeats 4000000 in
set_option maxRecDepth 100000 in
theorem c_X5_changed (l : Launch) (D : va_G) (cy : Nat → ClassId) (a0 : Nat) (x1 : Int32) (w : FW) (r : Int32 × FW) (hF : F_X5_changed a0 x1 w = some r) : fSpec l D cy yX5_changed cX5_changed 3 (some .int) { frames := 0, cells := 0, slots := 0, locals := 0 } [.ref a0, .int x1] w r.2 (some (.int r.1)) := by
  refine f_begin (by decide +kernel) (Nat.le_of_ble_eq_true rfl) (fun X hC hEn => ?_)
  unfold F_X5_changed at hF
  show fAt X 0 0 3 w [(0, .ref a0), (1, .int x1)] [] 0
  refine f_aload_n hC dX5_changed_0 rfl 0 rfl ?_
  obtain ⟨g1, hF⟩ := fg_open hF
  refine f_getI hC 5 5 505 rfl (by decide) iX5 q_1264 rfl rfl (fSm.k (fSm.rf w) g1) dX5_changed_1 ?_
  refine f_bipush (v := 8) hC dX5_changed_4 (by decide) ?_
  obtain ⟨x2, h3, hF⟩ := fb_open hF
  have K5 : fSm x2 w → fAt X 0 0 3 x2 [(0, .ref a0), (1, .int x1)] [] 53 := by
    intro p4
    refine f_iconst (v := 0) hC dX5_changed_53 (by decide) ?_
    refine f_istore_n (L' := [(2, .int 0), (0, .ref a0), (1, .int x1)]) hC dX5_changed_54 rfl (by decide) rfl ?_
    obtain ⟨x12, h13, hF⟩ := fb_open hF
    have K14 : fSm x12 w → fAt X 0 0 3 x12 [(1, .int x1)] [] 91 := by
      intro p10
      refine f_iload_n hC dX5_changed_91 rfl 0 rfl ?_
      obtain rfl := Option.some.inj hF
      exact f_iret hC hEn p10 dX5_changed_92
    refine f_sub (L' := [(0, .ref a0), (1, .int x1), (2, .int 0)]) [1, 2, 0] rfl ?_
    refine fLoop_ind (fun (s6 : Int32 × FW) => fSm s6.2 w → fAt X 0 0 3 s6.2 [(0, .ref a0), (1, .int x1), (2, .int s6.1)] [] 55) (fun s6 y11 h7 go8 ou9 => ?_) h13 p4
    intro p10
    refine f_iload_n hC dX5_changed_55 rfl 2 rfl ?_
    refine f_sipush (v := 177) hC dX5_changed_56 (by decide) ?_
    refine f_icmp_ge hC 91 dX5_changed_59 (by decide) (fun c15 => ?_) (fun c15 => ?_)
    · replace h7 := fi_pos h7 c15
      obtain rfl := Option.some.inj h7
      obtain rfl := ou9 _ rfl
      refine f_sub (L' := [(1, .int x1)]) [1] rfl ?_
      exact K14 p10
    · replace h7 := fi_neg h7 c15
      refine f_aload_n hC dX5_changed_62 rfl 0 rfl ?_
      refine f_getR hC 5 4 504 rfl (by decide) iX5 q_1263 rfl rfl (fSm.k p10 g1) dX5_changed_63 ?_
      refine f_sipush (v := 177) hC dX5_changed_66 (by decide) ?_
      refine f_aload_n hC dX5_changed_69 rfl 0 rfl ?_
      refine f_getI hC 5 5 505 rfl (by decide) iX5 q_1264 rfl rfl (fSm.k p10 g1) dX5_changed_70 ?_
      refine f_iconst (v := 1) hC dX5_changed_73 (by decide) ?_
      refine f_isub hC dX5_changed_74 ?_
      refine f_imul hC dX5_changed_75 ?_
      refine f_iload_n hC dX5_changed_76 rfl 2 rfl ?_
      refine f_iadd hC dX5_changed_77 ?_
      refine f_aload_n hC dX5_changed_78 rfl 0 rfl ?_
      refine f_getR hC 5 2 502 rfl (by decide) iX5 q_1261 rfl rfl (fSm.k p10 g1) dX5_changed_79 ?_
      refine f_iload_n hC dX5_changed_82 rfl 2 rfl ?_
      obtain ⟨g16, h7⟩ := fg_open h7
      obtain ⟨g17, h7⟩ := fg_open h7
      refine f_iald hC (fSm.k p10 g16) (fSm.v p10 g17) dX5_changed_83 ?_
      obtain ⟨g18, h7⟩ := fg_open h7
      obtain ⟨g19, h7⟩ := fg_open h7
      refine f_iast hC (fSm.k p10 g18) (fSm.v p10 g19) dX5_changed_84 ?_
      refine f_iinc (L' := [(2, .int (s6.1 + 1)), (0, .ref a0), (1, .int x1)]) hC dX5_changed_85 2 rfl rfl (by decide) rfl ?_
      refine f_goto hC 55 dX5_changed_88 (by decide) ?_
      obtain rfl := Option.some.inj h7
      refine f_sub (L' := [(0, .ref a0), (1, .int x1), (2, .int (s6.1 + 1))]) [1, 2, 0] rfl ?_
      exact go8 _ rfl p10
  refine f_icmp_ne hC 43 dX5_changed_6 (by decide) (fun c20 => ?_) (fun c20 => ?_)
  · replace h3 := fi_neg h3 c20
    refine f_aload_n hC dX5_changed_43 rfl 0 rfl ?_
    refine f_dup hC dX5_changed_44 rfl ?_
    refine f_getI hC 5 5 505 rfl (by decide) iX5 q_1264 rfl rfl (fSm.k (fSm.rf w) g1) dX5_changed_45 ?_
    refine f_iconst (v := 1) hC dX5_changed_48 (by decide) ?_
    refine f_iadd hC dX5_changed_49 ?_
    refine f_putI hC 5 5 505 rfl (by decide) iX5 tyX5 tyX5_ok nmX5 q_1264 rfl rfl rfl rfl rfl (fSm.k (fSm.rf w) g1) dX5_changed_50 ?_
    obtain rfl := Option.some.inj h3
    exact K5 (fSm.rf w)
  · replace h3 := fi_pos h3 c20
    refine f_iconst (v := 0) hC dX5_changed_9 (by decide) ?_
    refine f_istore_n (L' := [(2, .int 0), (0, .ref a0), (1, .int x1)]) hC dX5_changed_10 rfl (by decide) rfl ?_
    obtain ⟨x27, h28, h3⟩ := fb_open h3
    have K29 : fSm x27 w → fAt X 0 0 3 x27 [(0, .ref a0), (1, .int x1)] [] 40 := by
      intro p25
      refine f_goto hC 53 dX5_changed_40 (by decide) ?_
      obtain rfl := Option.some.inj h3
      exact K5 p25
    refine f_sub (L' := [(0, .ref a0), (1, .int x1), (2, .int 0)]) [1, 2, 0] rfl ?_
    refine fLoop_ind (fun (s21 : Int32 × FW) => fSm s21.2 w → fAt X 0 0 3 s21.2 [(0, .ref a0), (1, .int x1), (2, .int s21.1)] [] 11) (fun s21 y26 h22 go23 ou24 => ?_) h28 (fSm.rf w)
    intro p25
    refine f_iload_n hC dX5_changed_11 rfl 2 rfl ?_
    refine f_sipush (v := 1239) hC dX5_changed_12 (by decide) ?_
    refine f_icmp_ge hC 40 dX5_changed_15 (by decide) (fun c30 => ?_) (fun c30 => ?_)
    · replace h22 := fi_pos h22 c30
      obtain rfl := Option.some.inj h22
      obtain rfl := ou24 _ rfl
      refine f_sub (L' := [(0, .ref a0), (1, .int x1)]) [0, 1] rfl ?_
      exact K29 p25
    · replace h22 := fi_neg h22 c30
      refine f_aload_n hC dX5_changed_18 rfl 0 rfl ?_
      refine f_getR hC 5 4 504 rfl (by decide) iX5 q_1263 rfl rfl (fSm.k p25 g1) dX5_changed_19 ?_
      refine f_iload_n hC dX5_changed_22 rfl 2 rfl ?_
      refine f_aload_n hC dX5_changed_23 rfl 0 rfl ?_
      refine f_getR hC 5 4 504 rfl (by decide) iX5 q_1263 rfl rfl (fSm.k p25 g1) dX5_changed_24 ?_
      refine f_iload_n hC dX5_changed_27 rfl 2 rfl ?_
      refine f_sipush (v := 177) hC dX5_changed_28 (by decide) ?_
      refine f_iadd hC dX5_changed_31 ?_
      obtain ⟨g31, h22⟩ := fg_open h22
      obtain ⟨g32, h22⟩ := fg_open h22
      refine f_iald hC (fSm.k p25 g31) (fSm.v p25 g32) dX5_changed_32 ?_
      obtain ⟨g33, h22⟩ := fg_open h22
      refine f_iast hC (fSm.k p25 g31) (fSm.v p25 g33) dX5_changed_33 ?_
      refine f_iinc (L' := [(2, .int (s21.1 + 1)), (0, .ref a0), (1, .int x1)]) hC dX5_changed_34 2 rfl rfl (by decide) rfl ?_
      refine f_goto hC 11 dX5_changed_37 (by decide) ?_
      obtain rfl := Option.some.inj h22
      refine f_sub (L' := [(0, .ref a0), (1, .int x1), (2, .int (s21.1 + 1))]) [1, 2, 0] rfl ?_
      exact go23 _ rfl p25
theorem dX5_refused_0 : decode cX5_refused 0 = .ok (.aload_n 0, 1) := by decide +kernel
theorem dX5_refused_1 : decode cX5_refused 1 = .ok (.iload_n 2, 1) := by decide +kernel
theorem dX5_refused_2 : decode cX5_refused 2 = .ok (.putfield 47, 3) := by decide +kernel
theorem dX5_refused_5 : decode cX5_refused 5 = .ok (.iload_n 1, 1) := by decide +kernel
theorem dX5_refused_6 : decode cX5_refused 6 = .ok (.ireturn, 1) := by decide +kernel
theorem h9_X5_refused : yX5_refused.cls ≠ "java/lang/invoke/MethodHandle" ∧ yX5_refused.cls ≠ "java/lang/invoke/VarHandle" ∧ (parseMethodDescriptor yX5_refused.desc).map (fun d => d.parameters.length) = some 2 := by decide +kernel
noncomputable def F_X5_refused (a0 : Nat) (x1 : Int32) (x2 : Int32) (w : FW) : Option (Int32 × FW) :=
  fg (w.1 a0 = 6) inferInstance (some (x1, (sI w 517 a0 0 x2)))
set_option maxHeartbeats 4000000 in
set_option maxRecDepth 100000 in
theorem c_X5_refused (l : Launch) (D : va_G) (cy : Nat → ClassId) (a0 : Nat) (x1 : Int32) (x2 : Int32) (w : FW) (r : Int32 × FW) (hF : F_X5_refused a0 x1 x2 w = some r) : fSpec l D cy yX5_refused cX5_refused 3 (some .int) { frames := 0, cells := 0, slots := 0, locals := 0 } [.ref a0, .int x1, .int x2] w r.2 (some (.int r.1)) := by
  refine f_begin (by decide +kernel) (Nat.le_of_ble_eq_true rfl) (fun X hC hEn => ?_)
  unfold F_X5_refused at hF
  show fAt X 0 0 3 w [(0, .ref a0), (1, .int x1), (2, .int x2)] [] 0
  refine f_aload_n hC dX5_refused_0 rfl 0 rfl ?_
  refine f_iload_n hC dX5_refused_1 rfl 2 rfl ?_
  obtain ⟨g1, hF⟩ := fg_open hF
  refine f_putI hC 5 17 517 rfl (by decide) iX5 tyX5 tyX5_ok nmX5 q_1276 rfl rfl rfl rfl rfl (fSm.k (fSm.rf w) g1) dX5_refused_2 ?_
  refine f_iload_n hC dX5_refused_5 rfl 1 rfl ?_
  obtain rfl := Option.some.inj hF
  exact f_iret hC hEn (fSm.rf w) dX5_refused_6
theorem dX5_done_0 : decode cX5_done 0 = .ok (.aload_n 0, 1) := by decide +kernel
theorem dX5_done_1 : decode cX5_done 1 = .ok (.iload_n 1, 1) := by decide +kernel
theorem dX5_done_2 : decode cX5_done 2 = .ok (.putfield 50, 3) := by decide +kernel
theorem dX5_done_5 : decode cX5_done 5 = .ok (.iconst 0, 1) := by decide +kernel
theorem dX5_done_6 : decode cX5_done 6 = .ok (.ireturn, 1) := by decide +kernel
theorem h9_X5_done : yX5_done.cls ≠ "java/lang/invoke/MethodHandle" ∧ yX5_done.cls ≠ "java/lang/invoke/VarHandle" ∧ (parseMethodDescriptor yX5_done.desc).map (fun d => d.parameters.length) = some 1 := by decide +kernel
noncomputable def F_X5_done (a0 : Nat) (x1 : Int32) (w : FW) : Option (Int32 × FW) :=
  fg (w.1 a0 = 6) inferInstance (some (0, (sI w 518 a0 0 x1)))
set_option maxHeartbeats 4000000 in
set_option maxRecDepth 100000 in
theorem c_X5_done (l : Launch) (D : va_G) (cy : Nat → ClassId) (a0 : Nat) (x1 : Int32) (w : FW) (r : Int32 × FW) (hF : F_X5_done a0 x1 w = some r) : fSpec l D cy yX5_done cX5_done 2 (some .int) { frames := 0, cells := 0, slots := 0, locals := 0 } [.ref a0, .int x1] w r.2 (some (.int r.1)) := by
  refine f_begin (by decide +kernel) (Nat.le_of_ble_eq_true rfl) (fun X hC hEn => ?_)
  unfold F_X5_done at hF
  show fAt X 0 0 2 w [(0, .ref a0), (1, .int x1)] [] 0
  refine f_aload_n hC dX5_done_0 rfl 0 rfl ?_
  refine f_iload_n hC dX5_done_1 rfl 1 rfl ?_
  obtain ⟨g1, hF⟩ := fg_open hF
  refine f_putI hC 5 18 518 rfl (by decide) iX5 tyX5 tyX5_ok nmX5 q_1277 rfl rfl rfl rfl rfl (fSm.k (fSm.rf w) g1) dX5_done_2 ?_
  refine f_iconst (v := 0) hC dX5_done_5 (by decide) ?_
  obtain rfl := Option.some.inj hF
  exact f_iret hC hEn (fSm.rf w) dX5_done_6
theorem dX5_ends_0 : decode cX5_ends 0 = .ok (.iload_n 1, 1) := by decide +kernel
theorem dX5_ends_1 : decode cX5_ends 1 = .ok (.ifCond .ne 12, 3) := by decide +kernel
theorem dX5_ends_4 : decode cX5_ends 4 = .ok (.aload_n 0, 1) := by decide +kernel
theorem dX5_ends_5 : decode cX5_ends 5 = .ok (.aload_n 0, 1) := by decide +kernel
theorem dX5_ends_6 : decode cX5_ends 6 = .ok (.getfield 50, 3) := by decide +kernel
theorem dX5_ends_9 : decode cX5_ends 9 = .ok (.invokevirtual 53, 3) := by decide +kernel
theorem dX5_ends_12 : decode cX5_ends 12 = .ok (.ireturn, 1) := by decide +kernel
theorem dX5_ends_13 : decode cX5_ends 13 = .ok (.iload_n 1, 1) := by decide +kernel
theorem dX5_ends_14 : decode cX5_ends 14 = .ok (.ifCond .ge 10, 3) := by decide +kernel
theorem dX5_ends_17 : decode cX5_ends 17 = .ok (.aload_n 0, 1) := by decide +kernel
theorem dX5_ends_18 : decode cX5_ends 18 = .ok (.iload_n 1, 1) := by decide +kernel
theorem dX5_ends_19 : decode cX5_ends 19 = .ok (.ineg, 1) := by decide +kernel
theorem dX5_ends_20 : decode cX5_ends 20 = .ok (.invokevirtual 57, 3) := by decide +kernel
theorem dX5_ends_23 : decode cX5_ends 23 = .ok (.ireturn, 1) := by decide +kernel
theorem dX5_ends_24 : decode cX5_ends 24 = .ok (.aload_n 0, 1) := by decide +kernel
theorem dX5_ends_25 : decode cX5_ends 25 = .ok (.iload_n 1, 1) := by decide +kernel
theorem dX5_ends_26 : decode cX5_ends 26 = .ok (.putfield 60, 3) := by decide +kernel
theorem dX5_ends_29 : decode cX5_ends 29 = .ok (.aload_n 0, 1) := by decide +kernel
theorem dX5_ends_30 : decode cX5_ends 30 = .ok (.aload_n 0, 1) := by decide +kernel
theorem dX5_ends_31 : decode cX5_ends 31 = .ok (.getfield 47, 3) := by decide +kernel
theorem dX5_ends_34 : decode cX5_ends 34 = .ok (.putfield 63, 3) := by decide +kernel
theorem dX5_ends_37 : decode cX5_ends 37 = .ok (.aload_n 0, 1) := by decide +kernel
theorem dX5_ends_38 : decode cX5_ends 38 = .ok (.iload_n 2, 1) := by decide +kernel
theorem dX5_ends_39 : decode cX5_ends 39 = .ok (.invokevirtual 57, 3) := by decide +kernel
theorem dX5_ends_42 : decode cX5_ends 42 = .ok (.ireturn, 1) := by decide +kernel
theorem h9_X5_ends : yX5_ends.cls ≠ "java/lang/invoke/MethodHandle" ∧ yX5_ends.cls ≠ "java/lang/invoke/VarHandle" ∧ (parseMethodDescriptor yX5_ends.desc).map (fun d => d.parameters.length) = some 2 := by decide +kernel
noncomputable def F_X5_ends (a0 : Nat) (x1 : Int32) (x2 : Int32) (w : FW) : Option (Int32 × FW) :=
  (if x1 = 0 then fg (w.1 a0 = 6) inferInstance ((F_X5_changed a0 (gI w 518 a0 0) w).bind (fun r12 => some (r12.1, r12.2))) else (if 0 ≤ x1 then fg (w.1 a0 = 6) inferInstance ((F_X5_fails a0 x2 (sI (sI w 515 a0 0 x1) 516 a0 0 (gI (sI w 515 a0 0 x1) 517 a0 0))).bind (fun r4 => some (r4.1, r4.2))) else fg (w.1 a0 = 6) inferInstance ((F_X5_fails a0 (-x1) w).bind (fun r7 => some (r7.1, r7.2)))))
set_option maxHeartbeats 4000000 in
set_option maxRecDepth 100000 in
theorem c_X5_ends (l : Launch) (D : va_G) (cy : Nat → ClassId) (a0 : Nat) (x1 : Int32) (x2 : Int32) (w : FW) (r : Int32 × FW) (hF : F_X5_ends a0 x1 x2 w = some r) : fSpec l D cy yX5_ends cX5_ends 3 (some .int) { frames := 1, cells := 0, slots := 0, locals := 22 } [.ref a0, .int x1, .int x2] w r.2 (some (.int r.1)) := by
  refine f_begin (by decide +kernel) (Nat.le_of_ble_eq_true rfl) (fun X hC hEn => ?_)
  unfold F_X5_ends at hF
  show fAt X 0 0 3 w [(0, .ref a0), (1, .int x1), (2, .int x2)] [] 0
  refine f_iload_n hC dX5_ends_0 rfl 1 rfl ?_
  refine f_if_ne hC 13 dX5_ends_1 (by decide) (fun c1 => ?_) (fun c1 => ?_)
  · replace hF := fi_neg hF c1
    refine f_iload_n hC dX5_ends_13 rfl 1 rfl ?_
    refine f_if_ge hC 24 dX5_ends_14 (by decide) (fun c2 => ?_) (fun c2 => ?_)
    · replace hF := fi_pos hF c2
      refine f_aload_n hC dX5_ends_24 rfl 0 rfl ?_
      refine f_iload_n hC dX5_ends_25 rfl 1 rfl ?_
      obtain ⟨g3, hF⟩ := fg_open hF
      refine f_putI hC 5 15 515 rfl (by decide) iX5 tyX5 tyX5_ok nmX5 q_1274 rfl rfl rfl rfl rfl (fSm.k (fSm.rf w) g3) dX5_ends_26 ?_
      refine f_aload_n hC dX5_ends_29 rfl 0 rfl ?_
      refine f_aload_n hC dX5_ends_30 rfl 0 rfl ?_
      refine f_getI hC 5 17 517 rfl (by decide) iX5 q_1276 rfl rfl (fSm.k (fSm.rf w) g3) dX5_ends_31 ?_
      refine f_putI hC 5 16 516 rfl (by decide) iX5 tyX5 tyX5_ok nmX5 q_1275 rfl rfl rfl rfl rfl (fSm.k (fSm.rf w) g3) dX5_ends_34 ?_
      refine f_aload_n hC dX5_ends_37 rfl 0 rfl ?_
      refine f_iload_n hC dX5_ends_38 rfl 2 rfl ?_
      obtain ⟨r4, h5, hF⟩ := fb_open hF
      refine f_callV hC [.int x2] (c_X5_fails l D cy a0 x2 (sI (sI w 515 a0 0 x1) 516 a0 0 (gI (sI w 515 a0 0 x1) 517 a0 0)) r4 h5) q_1380 q_137 q_1377 q_1379 q_79 h9_X5_fails rfl (fSm.k (fSm.rf w) g3) ⟨Nat.le_of_ble_eq_true rfl, Nat.le_of_ble_eq_true rfl⟩ ⟨Nat.le_of_ble_eq_true rfl, Nat.le_of_ble_eq_true rfl⟩ (Nat.le_of_ble_eq_true rfl) rfl dX5_ends_39 (fun e6 => ?_)
      obtain rfl := Option.some.inj hF
      exact f_iret hC hEn (fSm.tr e6 (fSm.rf w)) dX5_ends_42
    · replace hF := fi_neg hF c2
      refine f_aload_n hC dX5_ends_17 rfl 0 rfl ?_
      refine f_iload_n hC dX5_ends_18 rfl 1 rfl ?_
      refine f_ineg hC dX5_ends_19 ?_
      obtain ⟨g9, hF⟩ := fg_open hF
      obtain ⟨r7, h8, hF⟩ := fb_open hF
      refine f_callV hC [.int (-x1)] (c_X5_fails l D cy a0 (-x1) w r7 h8) q_1380 q_137 q_1377 q_1379 q_79 h9_X5_fails rfl (fSm.k (fSm.rf w) g9) ⟨Nat.le_of_ble_eq_true rfl, Nat.le_of_ble_eq_true rfl⟩ ⟨Nat.le_of_ble_eq_true rfl, Nat.le_of_ble_eq_true rfl⟩ (Nat.le_of_ble_eq_true rfl) rfl dX5_ends_20 (fun e10 => ?_)
      obtain rfl := Option.some.inj hF
      exact f_iret hC hEn (fSm.tr e10 (fSm.rf w)) dX5_ends_23
  · replace hF := fi_pos hF c1
    refine f_aload_n hC dX5_ends_4 rfl 0 rfl ?_
    refine f_aload_n hC dX5_ends_5 rfl 0 rfl ?_
    obtain ⟨g11, hF⟩ := fg_open hF
    refine f_getI hC 5 18 518 rfl (by decide) iX5 q_1277 rfl rfl (fSm.k (fSm.rf w) g11) dX5_ends_6 ?_
    obtain ⟨r12, h13, hF⟩ := fb_open hF
    refine f_callV hC [.int (gI w 518 a0 0)] (c_X5_changed l D cy a0 (gI w 518 a0 0) w r12 h13) q_1376 q_137 q_1373 q_1375 q_78 h9_X5_changed rfl (fSm.k (fSm.rf w) g11) ⟨Nat.le_of_ble_eq_true rfl, Nat.le_of_ble_eq_true rfl⟩ ⟨Nat.le_of_ble_eq_true rfl, Nat.le_of_ble_eq_true rfl⟩ (Nat.le_of_ble_eq_true rfl) rfl dX5_ends_9 (fun e14 => ?_)
    obtain rfl := Option.some.inj hF
    exact f_iret hC hEn (fSm.tr e14 (fSm.rf w)) dX5_ends_12
theorem dX5_isTicket_0 : decode cX5_isTicket 0 = .ok (.iload_n 1, 1) := by decide +kernel
theorem dX5_isTicket_1 : decode cX5_isTicket 1 = .ok (.iconst 0, 1) := by decide +kernel
theorem dX5_isTicket_2 : decode cX5_isTicket 2 = .ok (.aload_n 0, 1) := by decide +kernel
theorem dX5_isTicket_3 : decode cX5_isTicket 3 = .ok (.getfield 7, 3) := by decide +kernel
theorem dX5_isTicket_6 : decode cX5_isTicket 6 = .ok (.iconst 0, 1) := by decide +kernel
theorem dX5_isTicket_7 : decode cX5_isTicket 7 = .ok (.iaload, 1) := by decide +kernel
theorem dX5_isTicket_8 : decode cX5_isTicket 8 = .ok (.iconst 1, 1) := by decide +kernel
theorem dX5_isTicket_9 : decode cX5_isTicket 9 = .ok (.isub, 1) := by decide +kernel
theorem dX5_isTicket_10 : decode cX5_isTicket 10 = .ok (.invokestatic 66, 3) := by decide +kernel
theorem dX5_isTicket_13 : decode cX5_isTicket 13 = .ok (.ireturn, 1) := by decide +kernel
theorem h9_X5_isTicket : yX5_isTicket.cls ≠ "java/lang/invoke/MethodHandle" ∧ yX5_isTicket.cls ≠ "java/lang/invoke/VarHandle" ∧ (parseMethodDescriptor yX5_isTicket.desc).map (fun d => d.parameters.length) = some 1 := by decide +kernel
noncomputable def F_X5_isTicket (a0 : Nat) (x1 : Int32) (w : FW) : Option (Int32) :=
  fg (w.1 a0 = 6) inferInstance (fg (w.1 (gR w 501 a0 0) = 11) inferInstance (fg (¬ ((0 : Int32) < 0 ∨ w.2.1 (gR w 501 a0 0) ≤ Int32.toNatClampNeg 0)) inferInstance ((F_X5_in x1 0 ((gI w 601 (gR w 501 a0 0) (Int32.toNatClampNeg 0)) - 1) w).bind (fun r4 => fg (r4 = 0 ∨ r4 = 1) inferInstance (some r4)))))
set_option maxHeartbeats 4000000 in
set_option maxRecDepth 100000 in
theorem c_X5_isTicket (l : Launch) (D : va_G) (cy : Nat → ClassId) (a0 : Nat) (x1 : Int32) (w : FW) (r : Int32) (hF : F_X5_isTicket a0 x1 w = some r) : fSpec l D cy yX5_isTicket cX5_isTicket 2 (some .boolean) { frames := 1, cells := 0, slots := 0, locals := 22 } [.ref a0, .int x1] w w (some (.int r)) := by
  refine f_begin (by decide +kernel) (Nat.le_of_ble_eq_true rfl) (fun X hC hEn => ?_)
  unfold F_X5_isTicket at hF
  show fAt X 0 0 2 w [(0, .ref a0), (1, .int x1)] [] 0
  refine f_iload_n hC dX5_isTicket_0 rfl 1 rfl ?_
  refine f_iconst (v := 0) hC dX5_isTicket_1 (by decide) ?_
  refine f_aload_n hC dX5_isTicket_2 rfl 0 rfl ?_
  obtain ⟨g1, hF⟩ := fg_open hF
  refine f_getR hC 5 1 501 rfl (by decide) iX5 q_1260 rfl rfl (fSm.k (fSm.rf w) g1) dX5_isTicket_3 ?_
  refine f_iconst (v := 0) hC dX5_isTicket_6 (by decide) ?_
  obtain ⟨g2, hF⟩ := fg_open hF
  obtain ⟨g3, hF⟩ := fg_open hF
  refine f_iald hC (fSm.k (fSm.rf w) g2) (fSm.v (fSm.rf w) g3) dX5_isTicket_7 ?_
  refine f_iconst (v := 1) hC dX5_isTicket_8 (by decide) ?_
  refine f_isub hC dX5_isTicket_9 ?_
  obtain ⟨r4, h5, hF⟩ := fb_open hF
  refine f_callS hC [.int x1, .int 0, .int ((gI w 601 (gR w 501 a0 0) (Int32.toNatClampNeg 0)) - 1)] (c_X5_in l D cy x1 0 ((gI w 601 (gR w 501 a0 0) (Int32.toNatClampNeg 0)) - 1) w r4 h5) q_1357 q_137 q_1355 q_1356 h9_X5_in ⟨Nat.le_of_ble_eq_true rfl, Nat.le_of_ble_eq_true rfl⟩ ⟨Nat.le_of_ble_eq_true rfl, Nat.le_of_ble_eq_true rfl⟩ (Nat.le_of_ble_eq_true rfl) rfl dX5_isTicket_10 (fun e6 => ?_)
  obtain ⟨g7, hF⟩ := fg_open hF
  obtain rfl := Option.some.inj hF
  exact f_zret hC hEn (fSm.rf w) (nar_z g7) dX5_isTicket_13
theorem dX5_of_0 : decode cX5_of 0 = .ok (.aload_n 0, 1) := by decide +kernel
theorem dX5_of_1 : decode cX5_of 1 = .ok (.getfield 7, 3) := by decide +kernel
theorem dX5_of_4 : decode cX5_of 4 = .ok (.bipush 17, 2) := by decide +kernel
theorem dX5_of_6 : decode cX5_of 6 = .ok (.bipush 20, 2) := by decide +kernel
theorem dX5_of_8 : decode cX5_of 8 = .ok (.iload_n 1, 1) := by decide +kernel
theorem dX5_of_9 : decode cX5_of 9 = .ok (.imul, 1) := by decide +kernel
theorem dX5_of_10 : decode cX5_of 10 = .ok (.iadd, 1) := by decide +kernel
theorem dX5_of_11 : decode cX5_of 11 = .ok (.iload_n 2, 1) := by decide +kernel
theorem dX5_of_12 : decode cX5_of 12 = .ok (.iadd, 1) := by decide +kernel
theorem dX5_of_13 : decode cX5_of 13 = .ok (.iaload, 1) := by decide +kernel
theorem dX5_of_14 : decode cX5_of 14 = .ok (.ireturn, 1) := by decide +kernel
theorem h9_X5_of : yX5_of.cls ≠ "java/lang/invoke/MethodHandle" ∧ yX5_of.cls ≠ "java/lang/invoke/VarHandle" ∧ (parseMethodDescriptor yX5_of.desc).map (fun d => d.parameters.length) = some 2 := by decide +kernel
noncomputable def F_X5_of (a0 : Nat) (x1 : Int32) (x2 : Int32) (w : FW) : Option (Int32) :=
  fg (w.1 a0 = 6) inferInstance (fg (w.1 (gR w 501 a0 0) = 11) inferInstance (fg (¬ (((17 + (20 * x1)) + x2) < 0 ∨ w.2.1 (gR w 501 a0 0) ≤ Int32.toNatClampNeg ((17 + (20 * x1)) + x2))) inferInstance (some (gI w 601 (gR w 501 a0 0) (Int32.toNatClampNeg ((17 + (20 * x1)) + x2))))))
set_option maxHeartbeats 4000000 in
set_option maxRecDepth 100000 in
theorem c_X5_of (l : Launch) (D : va_G) (cy : Nat → ClassId) (a0 : Nat) (x1 : Int32) (x2 : Int32) (w : FW) (r : Int32) (hF : F_X5_of a0 x1 x2 w = some r) : fSpec l D cy yX5_of cX5_of 3 (some .int) { frames := 0, cells := 0, slots := 0, locals := 0 } [.ref a0, .int x1, .int x2] w w (some (.int r)) := by
  refine f_begin (by decide +kernel) (Nat.le_of_ble_eq_true rfl) (fun X hC hEn => ?_)
  unfold F_X5_of at hF
  show fAt X 0 0 3 w [(0, .ref a0), (1, .int x1), (2, .int x2)] [] 0
  refine f_aload_n hC dX5_of_0 rfl 0 rfl ?_
  obtain ⟨g1, hF⟩ := fg_open hF
  refine f_getR hC 5 1 501 rfl (by decide) iX5 q_1260 rfl rfl (fSm.k (fSm.rf w) g1) dX5_of_1 ?_
  refine f_bipush (v := 17) hC dX5_of_4 (by decide) ?_
  refine f_bipush (v := 20) hC dX5_of_6 (by decide) ?_
  refine f_iload_n hC dX5_of_8 rfl 1 rfl ?_
  refine f_imul hC dX5_of_9 ?_
  refine f_iadd hC dX5_of_10 ?_
  refine f_iload_n hC dX5_of_11 rfl 2 rfl ?_
  refine f_iadd hC dX5_of_12 ?_
  obtain ⟨g2, hF⟩ := fg_open hF
  obtain ⟨g3, hF⟩ := fg_open hF
  refine f_iald hC (fSm.k (fSm.rf w) g2) (fSm.v (fSm.rf w) g3) dX5_of_13 ?_
  obtain rfl := Option.some.inj hF
  exact f_iret hC hEn (fSm.rf w) dX5_of_14
theorem dX5_sets_0 : decode cX5_sets 0 = .ok (.aload_n 0, 1) := by decide +kernel
theorem dX5_sets_1 : decode cX5_sets 1 = .ok (.getfield 7, 3) := by decide +kernel
theorem dX5_sets_4 : decode cX5_sets 4 = .ok (.bipush 17, 2) := by decide +kernel
theorem dX5_sets_6 : decode cX5_sets 6 = .ok (.bipush 20, 2) := by decide +kernel
theorem dX5_sets_8 : decode cX5_sets 8 = .ok (.iload_n 1, 1) := by decide +kernel
theorem dX5_sets_9 : decode cX5_sets 9 = .ok (.imul, 1) := by decide +kernel
theorem dX5_sets_10 : decode cX5_sets 10 = .ok (.iadd, 1) := by decide +kernel
theorem dX5_sets_11 : decode cX5_sets 11 = .ok (.iload_n 2, 1) := by decide +kernel
theorem dX5_sets_12 : decode cX5_sets 12 = .ok (.iadd, 1) := by decide +kernel
theorem dX5_sets_13 : decode cX5_sets 13 = .ok (.iload_n 3, 1) := by decide +kernel
theorem dX5_sets_14 : decode cX5_sets 14 = .ok (.iastore, 1) := by decide +kernel
theorem dX5_sets_15 : decode cX5_sets 15 = .ok (.return_, 1) := by decide +kernel
theorem h9_X5_sets : yX5_sets.cls ≠ "java/lang/invoke/MethodHandle" ∧ yX5_sets.cls ≠ "java/lang/invoke/VarHandle" ∧ (parseMethodDescriptor yX5_sets.desc).map (fun d => d.parameters.length) = some 3 := by decide +kernel
noncomputable def F_X5_sets (a0 : Nat) (x1 : Int32) (x2 : Int32) (x3 : Int32) (w : FW) : Option (FW) :=
  fg (w.1 a0 = 6) inferInstance (fg (w.1 (gR w 501 a0 0) = 11) inferInstance (fg (¬ (((17 + (20 * x1)) + x2) < 0 ∨ w.2.1 (gR w 501 a0 0) ≤ Int32.toNatClampNeg ((17 + (20 * x1)) + x2))) inferInstance (some (sI w 601 (gR w 501 a0 0) (Int32.toNatClampNeg ((17 + (20 * x1)) + x2)) x3))))
set_option maxHeartbeats 4000000 in
set_option maxRecDepth 100000 in
theorem c_X5_sets (l : Launch) (D : va_G) (cy : Nat → ClassId) (a0 : Nat) (x1 : Int32) (x2 : Int32) (x3 : Int32) (w : FW) (r : FW) (hF : F_X5_sets a0 x1 x2 x3 w = some r) : fSpec l D cy yX5_sets cX5_sets 4 none { frames := 0, cells := 0, slots := 0, locals := 0 } [.ref a0, .int x1, .int x2, .int x3] w r none := by
  refine f_begin (by decide +kernel) (Nat.le_of_ble_eq_true rfl) (fun X hC hEn => ?_)
  unfold F_X5_sets at hF
  show fAt X 0 0 4 w [(0, .ref a0), (1, .int x1), (2, .int x2), (3, .int x3)] [] 0
  refine f_aload_n hC dX5_sets_0 rfl 0 rfl ?_
  obtain ⟨g1, hF⟩ := fg_open hF
  refine f_getR hC 5 1 501 rfl (by decide) iX5 q_1260 rfl rfl (fSm.k (fSm.rf w) g1) dX5_sets_1 ?_
  refine f_bipush (v := 17) hC dX5_sets_4 (by decide) ?_
  refine f_bipush (v := 20) hC dX5_sets_6 (by decide) ?_
  refine f_iload_n hC dX5_sets_8 rfl 1 rfl ?_
  refine f_imul hC dX5_sets_9 ?_
  refine f_iadd hC dX5_sets_10 ?_
  refine f_iload_n hC dX5_sets_11 rfl 2 rfl ?_
  refine f_iadd hC dX5_sets_12 ?_
  refine f_iload_n hC dX5_sets_13 rfl 3 rfl ?_
  obtain ⟨g2, hF⟩ := fg_open hF
  obtain ⟨g3, hF⟩ := fg_open hF
  refine f_iast hC (fSm.k (fSm.rf w) g2) (fSm.v (fSm.rf w) g3) dX5_sets_14 ?_
  obtain rfl := Option.some.inj hF
  exact f_vret hC hEn (fSm.rf w) dX5_sets_15
theorem dX5_letterOf_0 : decode cX5_letterOf 0 = .ok (.aload_n 0, 1) := by decide +kernel
theorem dX5_letterOf_1 : decode cX5_letterOf 1 = .ok (.iload_n 1, 1) := by decide +kernel
theorem dX5_letterOf_2 : decode cX5_letterOf 2 = .ok (.iconst 1, 1) := by decide +kernel
theorem dX5_letterOf_3 : decode cX5_letterOf 3 = .ok (.iload_n 2, 1) := by decide +kernel
theorem dX5_letterOf_4 : decode cX5_letterOf 4 = .ok (.iadd, 1) := by decide +kernel
theorem dX5_letterOf_5 : decode cX5_letterOf 5 = .ok (.invokevirtual 70, 3) := by decide +kernel
theorem dX5_letterOf_8 : decode cX5_letterOf 8 = .ok (.ireturn, 1) := by decide +kernel
theorem h9_X5_letterOf : yX5_letterOf.cls ≠ "java/lang/invoke/MethodHandle" ∧ yX5_letterOf.cls ≠ "java/lang/invoke/VarHandle" ∧ (parseMethodDescriptor yX5_letterOf.desc).map (fun d => d.parameters.length) = some 2 := by decide +kernel
noncomputable def F_X5_letterOf (a0 : Nat) (x1 : Int32) (x2 : Int32) (w : FW) : Option (Int32) :=
  fg (w.1 a0 = 6) inferInstance ((F_X5_of a0 x1 (1 + x2) w).bind (fun r1 => some r1))
set_option maxHeartbeats 4000000 in
set_option maxRecDepth 100000 in
theorem c_X5_letterOf (l : Launch) (D : va_G) (cy : Nat → ClassId) (a0 : Nat) (x1 : Int32) (x2 : Int32) (w : FW) (r : Int32) (hF : F_X5_letterOf a0 x1 x2 w = some r) : fSpec l D cy yX5_letterOf cX5_letterOf 3 (some .int) { frames := 1, cells := 0, slots := 0, locals := 22 } [.ref a0, .int x1, .int x2] w w (some (.int r)) := by
  refine f_begin (by decide +kernel) (Nat.le_of_ble_eq_true rfl) (fun X hC hEn => ?_)
  unfold F_X5_letterOf at hF
  show fAt X 0 0 3 w [(0, .ref a0), (1, .int x1), (2, .int x2)] [] 0
  refine f_aload_n hC dX5_letterOf_0 rfl 0 rfl ?_
  refine f_iload_n hC dX5_letterOf_1 rfl 1 rfl ?_
  refine f_iconst (v := 1) hC dX5_letterOf_2 (by decide) ?_
  refine f_iload_n hC dX5_letterOf_3 rfl 2 rfl ?_
  refine f_iadd hC dX5_letterOf_4 ?_
  obtain ⟨g3, hF⟩ := fg_open hF
  obtain ⟨r1, h2, hF⟩ := fb_open hF
  refine f_callV hC [.int x1, .int (1 + x2)] (c_X5_of l D cy a0 x1 (1 + x2) w r1 h2) q_1452 q_137 q_1449 q_1451 q_91 h9_X5_of rfl (fSm.k (fSm.rf w) g3) ⟨Nat.le_of_ble_eq_true rfl, Nat.le_of_ble_eq_true rfl⟩ ⟨Nat.le_of_ble_eq_true rfl, Nat.le_of_ble_eq_true rfl⟩ (Nat.le_of_ble_eq_true rfl) rfl dX5_letterOf_5 (fun e4 => ?_)
  obtain rfl := Option.some.inj hF
  exact f_iret hC hEn (fSm.rf w) dX5_letterOf_8
theorem dX5_half_0 : decode cX5_half 0 = .ok (.aload_n 0, 1) := by decide +kernel
theorem dX5_half_1 : decode cX5_half 1 = .ok (.iload_n 1, 1) := by decide +kernel
theorem dX5_half_2 : decode cX5_half 2 = .ok (.bipush 12, 2) := by decide +kernel
theorem dX5_half_4 : decode cX5_half 4 = .ok (.iconst 4, 1) := by decide +kernel
theorem dX5_half_5 : decode cX5_half 5 = .ok (.iload_n 2, 1) := by decide +kernel
theorem dX5_half_6 : decode cX5_half 6 = .ok (.imul, 1) := by decide +kernel
theorem dX5_half_7 : decode cX5_half 7 = .ok (.iadd, 1) := by decide +kernel
theorem dX5_half_8 : decode cX5_half 8 = .ok (.iload_n 3, 1) := by decide +kernel
theorem dX5_half_9 : decode cX5_half 9 = .ok (.iadd, 1) := by decide +kernel
theorem dX5_half_10 : decode cX5_half 10 = .ok (.invokevirtual 70, 3) := by decide +kernel
theorem dX5_half_13 : decode cX5_half 13 = .ok (.ireturn, 1) := by decide +kernel
theorem h9_X5_half : yX5_half.cls ≠ "java/lang/invoke/MethodHandle" ∧ yX5_half.cls ≠ "java/lang/invoke/VarHandle" ∧ (parseMethodDescriptor yX5_half.desc).map (fun d => d.parameters.length) = some 3 := by decide +kernel
noncomputable def F_X5_half (a0 : Nat) (x1 : Int32) (x2 : Int32) (x3 : Int32) (w : FW) : Option (Int32) :=
  fg (w.1 a0 = 6) inferInstance ((F_X5_of a0 x1 ((12 + (4 * x2)) + x3) w).bind (fun r1 => some r1))
set_option maxHeartbeats 4000000 in
set_option maxRecDepth 100000 in
theorem c_X5_half (l : Launch) (D : va_G) (cy : Nat → ClassId) (a0 : Nat) (x1 : Int32) (x2 : Int32) (x3 : Int32) (w : FW) (r : Int32) (hF : F_X5_half a0 x1 x2 x3 w = some r) : fSpec l D cy yX5_half cX5_half 4 (some .int) { frames := 1, cells := 0, slots := 0, locals := 22 } [.ref a0, .int x1, .int x2, .int x3] w w (some (.int r)) := by
  refine f_begin (by decide +kernel) (Nat.le_of_ble_eq_true rfl) (fun X hC hEn => ?_)
  unfold F_X5_half at hF
  show fAt X 0 0 4 w [(0, .ref a0), (1, .int x1), (2, .int x2), (3, .int x3)] [] 0
  refine f_aload_n hC dX5_half_0 rfl 0 rfl ?_
  refine f_iload_n hC dX5_half_1 rfl 1 rfl ?_
  refine f_bipush (v := 12) hC dX5_half_2 (by decide) ?_
  refine f_iconst (v := 4) hC dX5_half_4 (by decide) ?_
  refine f_iload_n hC dX5_half_5 rfl 2 rfl ?_
  refine f_imul hC dX5_half_6 ?_
  refine f_iadd hC dX5_half_7 ?_
  refine f_iload_n hC dX5_half_8 rfl 3 rfl ?_
  refine f_iadd hC dX5_half_9 ?_
  obtain ⟨g3, hF⟩ := fg_open hF
  obtain ⟨r1, h2, hF⟩ := fb_open hF
  refine f_callV hC [.int x1, .int ((12 + (4 * x2)) + x3)] (c_X5_of l D cy a0 x1 ((12 + (4 * x2)) + x3) w r1 h2) q_1452 q_137 q_1449 q_1451 q_91 h9_X5_of rfl (fSm.k (fSm.rf w) g3) ⟨Nat.le_of_ble_eq_true rfl, Nat.le_of_ble_eq_true rfl⟩ ⟨Nat.le_of_ble_eq_true rfl, Nat.le_of_ble_eq_true rfl⟩ (Nat.le_of_ble_eq_true rfl) rfl dX5_half_10 (fun e4 => ?_)
  obtain rfl := Option.some.inj hF
  exact f_iret hC hEn (fSm.rf w) dX5_half_13
theorem dX5_setsHalf_0 : decode cX5_setsHalf 0 = .ok (.aload_n 0, 1) := by decide +kernel
theorem dX5_setsHalf_1 : decode cX5_setsHalf 1 = .ok (.iload_n 1, 1) := by decide +kernel
theorem dX5_setsHalf_2 : decode cX5_setsHalf 2 = .ok (.bipush 12, 2) := by decide +kernel
theorem dX5_setsHalf_4 : decode cX5_setsHalf 4 = .ok (.iconst 4, 1) := by decide +kernel
theorem dX5_setsHalf_5 : decode cX5_setsHalf 5 = .ok (.iload_n 2, 1) := by decide +kernel
theorem dX5_setsHalf_6 : decode cX5_setsHalf 6 = .ok (.imul, 1) := by decide +kernel
theorem dX5_setsHalf_7 : decode cX5_setsHalf 7 = .ok (.iadd, 1) := by decide +kernel
theorem dX5_setsHalf_8 : decode cX5_setsHalf 8 = .ok (.iload_n 3, 1) := by decide +kernel
theorem dX5_setsHalf_9 : decode cX5_setsHalf 9 = .ok (.iadd, 1) := by decide +kernel
theorem dX5_setsHalf_10 : decode cX5_setsHalf 10 = .ok (.iload 4, 2) := by decide +kernel
theorem dX5_setsHalf_12 : decode cX5_setsHalf 12 = .ok (.invokevirtual 74, 3) := by decide +kernel
theorem dX5_setsHalf_15 : decode cX5_setsHalf 15 = .ok (.return_, 1) := by decide +kernel
theorem h9_X5_setsHalf : yX5_setsHalf.cls ≠ "java/lang/invoke/MethodHandle" ∧ yX5_setsHalf.cls ≠ "java/lang/invoke/VarHandle" ∧ (parseMethodDescriptor yX5_setsHalf.desc).map (fun d => d.parameters.length) = some 4 := by decide +kernel
noncomputable def F_X5_setsHalf (a0 : Nat) (x1 : Int32) (x2 : Int32) (x3 : Int32) (x4 : Int32) (w : FW) : Option (FW) :=
  fg (w.1 a0 = 6) inferInstance ((F_X5_sets a0 x1 ((12 + (4 * x2)) + x3) x4 w).bind (fun r1 => some r1))
set_option maxHeartbeats 4000000 in
set_option maxRecDepth 100000 in
theorem c_X5_setsHalf (l : Launch) (D : va_G) (cy : Nat → ClassId) (a0 : Nat) (x1 : Int32) (x2 : Int32) (x3 : Int32) (x4 : Int32) (w : FW) (r : FW) (hF : F_X5_setsHalf a0 x1 x2 x3 x4 w = some r) : fSpec l D cy yX5_setsHalf cX5_setsHalf 5 none { frames := 1, cells := 0, slots := 0, locals := 23 } [.ref a0, .int x1, .int x2, .int x3, .int x4] w r none := by
  refine f_begin (by decide +kernel) (Nat.le_of_ble_eq_true rfl) (fun X hC hEn => ?_)
  unfold F_X5_setsHalf at hF
  show fAt X 0 0 5 w [(0, .ref a0), (1, .int x1), (2, .int x2), (3, .int x3), (4, .int x4)] [] 0
  refine f_aload_n hC dX5_setsHalf_0 rfl 0 rfl ?_
  refine f_iload_n hC dX5_setsHalf_1 rfl 1 rfl ?_
  refine f_bipush (v := 12) hC dX5_setsHalf_2 (by decide) ?_
  refine f_iconst (v := 4) hC dX5_setsHalf_4 (by decide) ?_
  refine f_iload_n hC dX5_setsHalf_5 rfl 2 rfl ?_
  refine f_imul hC dX5_setsHalf_6 ?_
  refine f_iadd hC dX5_setsHalf_7 ?_
  refine f_iload_n hC dX5_setsHalf_8 rfl 3 rfl ?_
  refine f_iadd hC dX5_setsHalf_9 ?_
  refine f_iload hC dX5_setsHalf_10 4 rfl ?_
  obtain ⟨g3, hF⟩ := fg_open hF
  obtain ⟨r1, h2, hF⟩ := fb_open hF
  refine f_callV hC [.int x1, .int ((12 + (4 * x2)) + x3), .int x4] (c_X5_sets l D cy a0 x1 ((12 + (4 * x2)) + x3) x4 w r1 h2) q_1404 q_137 q_1401 q_1403 q_83 h9_X5_sets rfl (fSm.k (fSm.rf w) g3) ⟨Nat.le_of_ble_eq_true rfl, Nat.le_of_ble_eq_true rfl⟩ ⟨Nat.le_of_ble_eq_true rfl, Nat.le_of_ble_eq_true rfl⟩ (Nat.le_of_ble_eq_true rfl) rfl dX5_setsHalf_12 (fun e4 => ?_)
  obtain rfl := Option.some.inj hF
  exact f_vret hC hEn (fSm.tr e4 (fSm.rf w)) dX5_setsHalf_15
theorem dX5_isPunched_0 : decode cX5_isPunched 0 = .ok (.aload_n 0, 1) := by decide +kernel
theorem dX5_isPunched_1 : decode cX5_isPunched 1 = .ok (.iload_n 1, 1) := by decide +kernel
theorem dX5_isPunched_2 : decode cX5_isPunched 2 = .ok (.iload_n 2, 1) := by decide +kernel
theorem dX5_isPunched_3 : decode cX5_isPunched 3 = .ok (.iconst 0, 1) := by decide +kernel
theorem dX5_isPunched_4 : decode cX5_isPunched 4 = .ok (.invokevirtual 78, 3) := by decide +kernel
theorem dX5_isPunched_7 : decode cX5_isPunched 7 = .ok (.iconst (-1), 1) := by decide +kernel
theorem dX5_isPunched_8 : decode cX5_isPunched 8 = .ok (.if_icmp .eq 7, 3) := by decide +kernel
theorem dX5_isPunched_11 : decode cX5_isPunched 11 = .ok (.iconst 1, 1) := by decide +kernel
theorem dX5_isPunched_12 : decode cX5_isPunched 12 = .ok (.goto 4, 3) := by decide +kernel
theorem dX5_isPunched_15 : decode cX5_isPunched 15 = .ok (.iconst 0, 1) := by decide +kernel
theorem dX5_isPunched_16 : decode cX5_isPunched 16 = .ok (.ireturn, 1) := by decide +kernel
theorem h9_X5_isPunched : yX5_isPunched.cls ≠ "java/lang/invoke/MethodHandle" ∧ yX5_isPunched.cls ≠ "java/lang/invoke/VarHandle" ∧ (parseMethodDescriptor yX5_isPunched.desc).map (fun d => d.parameters.length) = some 2 := by decide +kernel
noncomputable def F_X5_isPunched (a0 : Nat) (x1 : Int32) (x2 : Int32) (w : FW) : Option (Int32) :=
  fg (w.1 a0 = 6) inferInstance ((F_X5_half a0 x1 x2 0 w).bind (fun r1 => (if r1 = (-1) then some 0 else some 1)))
set_option maxHeartbeats 4000000 in
set_option maxRecDepth 100000 in
theorem c_X5_isPunched (l : Launch) (D : va_G) (cy : Nat → ClassId) (a0 : Nat) (x1 : Int32) (x2 : Int32) (w : FW) (r : Int32) (hF : F_X5_isPunched a0 x1 x2 w = some r) : fSpec l D cy yX5_isPunched cX5_isPunched 3 (some .boolean) { frames := 2, cells := 0, slots := 0, locals := 45 } [.ref a0, .int x1, .int x2] w w (some (.int r)) := by
  refine f_begin (by decide +kernel) (Nat.le_of_ble_eq_true rfl) (fun X hC hEn => ?_)
  unfold F_X5_isPunched at hF
  show fAt X 0 0 3 w [(0, .ref a0), (1, .int x1), (2, .int x2)] [] 0
  refine f_aload_n hC dX5_isPunched_0 rfl 0 rfl ?_
  refine f_iload_n hC dX5_isPunched_1 rfl 1 rfl ?_
  refine f_iload_n hC dX5_isPunched_2 rfl 2 rfl ?_
  refine f_iconst (v := 0) hC dX5_isPunched_3 (by decide) ?_
  obtain ⟨g3, hF⟩ := fg_open hF
  obtain ⟨r1, h2, hF⟩ := fb_open hF
  refine f_callV hC [.int x1, .int x2, .int 0] (c_X5_half l D cy a0 x1 x2 0 w r1 h2) q_1483 q_137 q_1480 q_1482 q_96 h9_X5_half rfl (fSm.k (fSm.rf w) g3) ⟨Nat.le_of_ble_eq_true rfl, Nat.le_of_ble_eq_true rfl⟩ ⟨Nat.le_of_ble_eq_true rfl, Nat.le_of_ble_eq_true rfl⟩ (Nat.le_of_ble_eq_true rfl) rfl dX5_isPunched_4 (fun e4 => ?_)
  refine f_iconst (v := (-1)) hC dX5_isPunched_7 (by decide) ?_
  refine f_icmp_eq hC 15 dX5_isPunched_8 (by decide) (fun c5 => ?_) (fun c5 => ?_)
  · replace hF := fi_pos hF c5
    refine f_iconst (v := 0) hC dX5_isPunched_15 (by decide) ?_
    obtain rfl := Option.some.inj hF
    exact f_zret hC hEn (fSm.rf w) (nar_z (by decide)) dX5_isPunched_16
  · replace hF := fi_neg hF c5
    refine f_iconst (v := 1) hC dX5_isPunched_11 (by decide) ?_
    refine f_goto hC 16 dX5_isPunched_12 (by decide) ?_
    obtain rfl := Option.some.inj hF
    exact f_zret hC hEn (fSm.rf w) (nar_z (by decide)) dX5_isPunched_16
theorem dX5_vowel_0 : decode cX5_vowel 0 = .ok (.iload_n 0, 1) := by decide +kernel
theorem dX5_vowel_1 : decode cX5_vowel 1 = .ok (.bipush 97, 2) := by decide +kernel
theorem dX5_vowel_3 : decode cX5_vowel 3 = .ok (.if_icmp .ne 7, 3) := by decide +kernel
theorem dX5_vowel_6 : decode cX5_vowel 6 = .ok (.iconst 0, 1) := by decide +kernel
theorem dX5_vowel_7 : decode cX5_vowel 7 = .ok (.goto 44, 3) := by decide +kernel
theorem dX5_vowel_10 : decode cX5_vowel 10 = .ok (.iload_n 0, 1) := by decide +kernel
theorem dX5_vowel_11 : decode cX5_vowel 11 = .ok (.bipush 101, 2) := by decide +kernel
theorem dX5_vowel_13 : decode cX5_vowel 13 = .ok (.if_icmp .ne 7, 3) := by decide +kernel
theorem dX5_vowel_16 : decode cX5_vowel 16 = .ok (.iconst 1, 1) := by decide +kernel
theorem dX5_vowel_17 : decode cX5_vowel 17 = .ok (.goto 34, 3) := by decide +kernel
theorem dX5_vowel_20 : decode cX5_vowel 20 = .ok (.iload_n 0, 1) := by decide +kernel
theorem dX5_vowel_21 : decode cX5_vowel 21 = .ok (.bipush 105, 2) := by decide +kernel
theorem dX5_vowel_23 : decode cX5_vowel 23 = .ok (.if_icmp .ne 7, 3) := by decide +kernel
theorem dX5_vowel_26 : decode cX5_vowel 26 = .ok (.iconst 2, 1) := by decide +kernel
theorem dX5_vowel_27 : decode cX5_vowel 27 = .ok (.goto 24, 3) := by decide +kernel
theorem dX5_vowel_30 : decode cX5_vowel 30 = .ok (.iload_n 0, 1) := by decide +kernel
theorem dX5_vowel_31 : decode cX5_vowel 31 = .ok (.bipush 111, 2) := by decide +kernel
theorem dX5_vowel_33 : decode cX5_vowel 33 = .ok (.if_icmp .ne 7, 3) := by decide +kernel
theorem dX5_vowel_36 : decode cX5_vowel 36 = .ok (.iconst 3, 1) := by decide +kernel
theorem dX5_vowel_37 : decode cX5_vowel 37 = .ok (.goto 14, 3) := by decide +kernel
theorem dX5_vowel_40 : decode cX5_vowel 40 = .ok (.iload_n 0, 1) := by decide +kernel
theorem dX5_vowel_41 : decode cX5_vowel 41 = .ok (.bipush 117, 2) := by decide +kernel
theorem dX5_vowel_43 : decode cX5_vowel 43 = .ok (.if_icmp .ne 7, 3) := by decide +kernel
theorem dX5_vowel_46 : decode cX5_vowel 46 = .ok (.iconst 4, 1) := by decide +kernel
theorem dX5_vowel_47 : decode cX5_vowel 47 = .ok (.goto 4, 3) := by decide +kernel
theorem dX5_vowel_50 : decode cX5_vowel 50 = .ok (.iconst (-1), 1) := by decide +kernel
theorem dX5_vowel_51 : decode cX5_vowel 51 = .ok (.ireturn, 1) := by decide +kernel
theorem h9_X5_vowel : yX5_vowel.cls ≠ "java/lang/invoke/MethodHandle" ∧ yX5_vowel.cls ≠ "java/lang/invoke/VarHandle" ∧ (parseMethodDescriptor yX5_vowel.desc).map (fun d => d.parameters.length) = some 1 := by decide +kernel
noncomputable def F_X5_vowel (x1 : Int32) (w : FW) : Option (Int32) :=
  (if x1 = 97 then some 0 else (if x1 = 101 then some 1 else (if x1 = 105 then some 2 else (if x1 = 111 then some 3 else (if x1 = 117 then some 4 else some (-1))))))
set_option maxHeartbeats 4000000 in
set_option maxRecDepth 100000 in
theorem c_X5_vowel (l : Launch) (D : va_G) (cy : Nat → ClassId) (x1 : Int32) (w : FW) (r : Int32) (hF : F_X5_vowel x1 w = some r) : fSpec l D cy yX5_vowel cX5_vowel 1 (some .int) { frames := 0, cells := 0, slots := 0, locals := 0 } [.int x1] w w (some (.int r)) := by
  refine f_begin (by decide +kernel) (Nat.le_of_ble_eq_true rfl) (fun X hC hEn => ?_)
  unfold F_X5_vowel at hF
  show fAt X 0 0 1 w [(0, .int x1)] [] 0
  refine f_iload_n hC dX5_vowel_0 rfl 0 rfl ?_
  refine f_bipush (v := 97) hC dX5_vowel_1 (by decide) ?_
  refine f_icmp_ne hC 10 dX5_vowel_3 (by decide) (fun c1 => ?_) (fun c1 => ?_)
  · replace hF := fi_neg hF c1
    refine f_iload_n hC dX5_vowel_10 rfl 0 rfl ?_
    refine f_bipush (v := 101) hC dX5_vowel_11 (by decide) ?_
    refine f_icmp_ne hC 20 dX5_vowel_13 (by decide) (fun c2 => ?_) (fun c2 => ?_)
    · replace hF := fi_neg hF c2
      refine f_iload_n hC dX5_vowel_20 rfl 0 rfl ?_
      refine f_bipush (v := 105) hC dX5_vowel_21 (by decide) ?_
      refine f_icmp_ne hC 30 dX5_vowel_23 (by decide) (fun c3 => ?_) (fun c3 => ?_)
      · replace hF := fi_neg hF c3
        refine f_iload_n hC dX5_vowel_30 rfl 0 rfl ?_
        refine f_bipush (v := 111) hC dX5_vowel_31 (by decide) ?_
        refine f_icmp_ne hC 40 dX5_vowel_33 (by decide) (fun c4 => ?_) (fun c4 => ?_)
        · replace hF := fi_neg hF c4
          refine f_iload_n hC dX5_vowel_40 rfl 0 rfl ?_
          refine f_bipush (v := 117) hC dX5_vowel_41 (by decide) ?_
          refine f_icmp_ne hC 50 dX5_vowel_43 (by decide) (fun c5 => ?_) (fun c5 => ?_)
          · replace hF := fi_neg hF c5
            refine f_iconst (v := (-1)) hC dX5_vowel_50 (by decide) ?_
            obtain rfl := Option.some.inj hF
            exact f_iret hC hEn (fSm.rf w) dX5_vowel_51
          · replace hF := fi_pos hF c5
            refine f_iconst (v := 4) hC dX5_vowel_46 (by decide) ?_
            refine f_goto hC 51 dX5_vowel_47 (by decide) ?_
            obtain rfl := Option.some.inj hF
            exact f_iret hC hEn (fSm.rf w) dX5_vowel_51
        · replace hF := fi_pos hF c4
          refine f_iconst (v := 3) hC dX5_vowel_36 (by decide) ?_
          refine f_goto hC 51 dX5_vowel_37 (by decide) ?_
          obtain rfl := Option.some.inj hF
          exact f_iret hC hEn (fSm.rf w) dX5_vowel_51
      · replace hF := fi_pos hF c3
        refine f_iconst (v := 2) hC dX5_vowel_26 (by decide) ?_
        refine f_goto hC 51 dX5_vowel_27 (by decide) ?_
        obtain rfl := Option.some.inj hF
        exact f_iret hC hEn (fSm.rf w) dX5_vowel_51
    · replace hF := fi_pos hF c2
      refine f_iconst (v := 1) hC dX5_vowel_16 (by decide) ?_
      refine f_goto hC 51 dX5_vowel_17 (by decide) ?_
      obtain rfl := Option.some.inj hF
      exact f_iret hC hEn (fSm.rf w) dX5_vowel_51
  · replace hF := fi_pos hF c1
    refine f_iconst (v := 0) hC dX5_vowel_6 (by decide) ?_
    refine f_goto hC 51 dX5_vowel_7 (by decide) ?_
    obtain rfl := Option.some.inj hF
    exact f_iret hC hEn (fSm.rf w) dX5_vowel_51
theorem dX5_isConsonant_0 : decode cX5_isConsonant 0 = .ok (.iload_n 0, 1) := by decide +kernel
theorem dX5_isConsonant_1 : decode cX5_isConsonant 1 = .ok (.bipush 98, 2) := by decide +kernel
theorem dX5_isConsonant_3 : decode cX5_isConsonant 3 = .ok (.if_icmp .eq 31, 3) := by decide +kernel
theorem dX5_isConsonant_6 : decode cX5_isConsonant 6 = .ok (.iload_n 0, 1) := by decide +kernel
theorem dX5_isConsonant_7 : decode cX5_isConsonant 7 = .ok (.bipush 100, 2) := by decide +kernel
theorem dX5_isConsonant_9 : decode cX5_isConsonant 9 = .ok (.if_icmp .eq 25, 3) := by decide +kernel
theorem dX5_isConsonant_12 : decode cX5_isConsonant 12 = .ok (.iload_n 0, 1) := by decide +kernel
theorem dX5_isConsonant_13 : decode cX5_isConsonant 13 = .ok (.bipush 107, 2) := by decide +kernel
theorem dX5_isConsonant_15 : decode cX5_isConsonant 15 = .ok (.bipush 110, 2) := by decide +kernel
theorem dX5_isConsonant_17 : decode cX5_isConsonant 17 = .ok (.invokestatic 66, 3) := by decide +kernel
theorem dX5_isConsonant_20 : decode cX5_isConsonant 20 = .ok (.ifCond .ne 14, 3) := by decide +kernel
theorem dX5_isConsonant_23 : decode cX5_isConsonant 23 = .ok (.iload_n 0, 1) := by decide +kernel
theorem dX5_isConsonant_24 : decode cX5_isConsonant 24 = .ok (.bipush 114, 2) := by decide +kernel
theorem dX5_isConsonant_26 : decode cX5_isConsonant 26 = .ok (.bipush 116, 2) := by decide +kernel
theorem dX5_isConsonant_28 : decode cX5_isConsonant 28 = .ok (.invokestatic 66, 3) := by decide +kernel
theorem dX5_isConsonant_31 : decode cX5_isConsonant 31 = .ok (.ifCond .eq 7, 3) := by decide +kernel
theorem dX5_isConsonant_34 : decode cX5_isConsonant 34 = .ok (.iconst 1, 1) := by decide +kernel
theorem dX5_isConsonant_35 : decode cX5_isConsonant 35 = .ok (.goto 4, 3) := by decide +kernel
theorem dX5_isConsonant_38 : decode cX5_isConsonant 38 = .ok (.iconst 0, 1) := by decide +kernel
theorem dX5_isConsonant_39 : decode cX5_isConsonant 39 = .ok (.ireturn, 1) := by decide +kernel
theorem h9_X5_isConsonant : yX5_isConsonant.cls ≠ "java/lang/invoke/MethodHandle" ∧ yX5_isConsonant.cls ≠ "java/lang/invoke/VarHandle" ∧ (parseMethodDescriptor yX5_isConsonant.desc).map (fun d => d.parameters.length) = some 1 := by decide +kernel
noncomputable def F_X5_isConsonant (x1 : Int32) (w : FW) : Option (Int32) :=
  (if x1 = 98 then some 1 else (if x1 = 100 then some 1 else (F_X5_in x1 107 110 w).bind (fun r3 => (if r3 = 0 then (F_X5_in x1 114 116 w).bind (fun r7 => (if r7 = 0 then some 0 else some 1)) else some 1))))
set_option maxHeartbeats 4000000 in
set_option maxRecDepth 100000 in
theorem c_X5_isConsonant (l : Launch) (D : va_G) (cy : Nat → ClassId) (x1 : Int32) (w : FW) (r : Int32) (hF : F_X5_isConsonant x1 w = some r) : fSpec l D cy yX5_isConsonant cX5_isConsonant 1 (some .boolean) { frames := 1, cells := 0, slots := 0, locals := 22 } [.int x1] w w (some (.int r)) := by
  refine f_begin (by decide +kernel) (Nat.le_of_ble_eq_true rfl) (fun X hC hEn => ?_)
  unfold F_X5_isConsonant at hF
  show fAt X 0 0 1 w [(0, .int x1)] [] 0
  refine f_iload_n hC dX5_isConsonant_0 rfl 0 rfl ?_
  refine f_bipush (v := 98) hC dX5_isConsonant_1 (by decide) ?_
  refine f_icmp_eq hC 34 dX5_isConsonant_3 (by decide) (fun c1 => ?_) (fun c1 => ?_)
  · replace hF := fi_pos hF c1
    refine f_iconst (v := 1) hC dX5_isConsonant_34 (by decide) ?_
    refine f_goto hC 39 dX5_isConsonant_35 (by decide) ?_
    obtain rfl := Option.some.inj hF
    exact f_zret hC hEn (fSm.rf w) (nar_z (by decide)) dX5_isConsonant_39
  · replace hF := fi_neg hF c1
    refine f_iload_n hC dX5_isConsonant_6 rfl 0 rfl ?_
    refine f_bipush (v := 100) hC dX5_isConsonant_7 (by decide) ?_
    refine f_icmp_eq hC 34 dX5_isConsonant_9 (by decide) (fun c2 => ?_) (fun c2 => ?_)
    · replace hF := fi_pos hF c2
      refine f_iconst (v := 1) hC dX5_isConsonant_34 (by decide) ?_
      refine f_goto hC 39 dX5_isConsonant_35 (by decide) ?_
      obtain rfl := Option.some.inj hF
      exact f_zret hC hEn (fSm.rf w) (nar_z (by decide)) dX5_isConsonant_39
    · replace hF := fi_neg hF c2
      refine f_iload_n hC dX5_isConsonant_12 rfl 0 rfl ?_
      refine f_bipush (v := 107) hC dX5_isConsonant_13 (by decide) ?_
      refine f_bipush (v := 110) hC dX5_isConsonant_15 (by decide) ?_
      obtain ⟨r3, h4, hF⟩ := fb_open hF
      refine f_callS hC [.int x1, .int 107, .int 110] (c_X5_in l D cy x1 107 110 w r3 h4) q_1357 q_137 q_1355 q_1356 h9_X5_in ⟨Nat.le_of_ble_eq_true rfl, Nat.le_of_ble_eq_true rfl⟩ ⟨Nat.le_of_ble_eq_true rfl, Nat.le_of_ble_eq_true rfl⟩ (Nat.le_of_ble_eq_true rfl) rfl dX5_isConsonant_17 (fun e5 => ?_)
      refine f_if_ne hC 34 dX5_isConsonant_20 (by decide) (fun c6 => ?_) (fun c6 => ?_)
      · replace hF := fi_neg hF c6
        refine f_iconst (v := 1) hC dX5_isConsonant_34 (by decide) ?_
        refine f_goto hC 39 dX5_isConsonant_35 (by decide) ?_
        obtain rfl := Option.some.inj hF
        exact f_zret hC hEn (fSm.rf w) (nar_z (by decide)) dX5_isConsonant_39
      · replace hF := fi_pos hF c6
        refine f_iload_n hC dX5_isConsonant_23 rfl 0 rfl ?_
        refine f_bipush (v := 114) hC dX5_isConsonant_24 (by decide) ?_
        refine f_bipush (v := 116) hC dX5_isConsonant_26 (by decide) ?_
        obtain ⟨r7, h8, hF⟩ := fb_open hF
        refine f_callS hC [.int x1, .int 114, .int 116] (c_X5_in l D cy x1 114 116 w r7 h8) q_1357 q_137 q_1355 q_1356 h9_X5_in ⟨Nat.le_of_ble_eq_true rfl, Nat.le_of_ble_eq_true rfl⟩ ⟨Nat.le_of_ble_eq_true rfl, Nat.le_of_ble_eq_true rfl⟩ (Nat.le_of_ble_eq_true rfl) rfl dX5_isConsonant_28 (fun e9 => ?_)
        refine f_if_eq hC 38 dX5_isConsonant_31 (by decide) (fun c10 => ?_) (fun c10 => ?_)
        · replace hF := fi_pos hF c10
          refine f_iconst (v := 0) hC dX5_isConsonant_38 (by decide) ?_
          obtain rfl := Option.some.inj hF
          exact f_zret hC hEn (fSm.rf w) (nar_z (by decide)) dX5_isConsonant_39
        · replace hF := fi_neg hF c10
          refine f_iconst (v := 1) hC dX5_isConsonant_34 (by decide) ?_
          refine f_goto hC 39 dX5_isConsonant_35 (by decide) ?_
          obtain rfl := Option.some.inj hF
          exact f_zret hC hEn (fSm.rf w) (nar_z (by decide)) dX5_isConsonant_39
theorem dX5_isLetter_0 : decode cX5_isLetter 0 = .ok (.iload_n 0, 1) := by decide +kernel
theorem dX5_isLetter_1 : decode cX5_isLetter 1 = .ok (.invokestatic 82, 3) := by decide +kernel
theorem dX5_isLetter_4 : decode cX5_isLetter 4 = .ok (.ifCond .ne 11, 3) := by decide +kernel
theorem dX5_isLetter_7 : decode cX5_isLetter 7 = .ok (.iload_n 0, 1) := by decide +kernel
theorem dX5_isLetter_8 : decode cX5_isLetter 8 = .ok (.invokestatic 86, 3) := by decide +kernel
theorem dX5_isLetter_11 : decode cX5_isLetter 11 = .ok (.iconst (-1), 1) := by decide +kernel
theorem dX5_isLetter_12 : decode cX5_isLetter 12 = .ok (.if_icmp .eq 7, 3) := by decide +kernel
theorem dX5_isLetter_15 : decode cX5_isLetter 15 = .ok (.iconst 1, 1) := by decide +kernel
theorem dX5_isLetter_16 : decode cX5_isLetter 16 = .ok (.goto 4, 3) := by decide +kernel
theorem dX5_isLetter_19 : decode cX5_isLetter 19 = .ok (.iconst 0, 1) := by decide +kernel
theorem dX5_isLetter_20 : decode cX5_isLetter 20 = .ok (.ireturn, 1) := by decide +kernel
theorem h9_X5_isLetter : yX5_isLetter.cls ≠ "java/lang/invoke/MethodHandle" ∧ yX5_isLetter.cls ≠ "java/lang/invoke/VarHandle" ∧ (parseMethodDescriptor yX5_isLetter.desc).map (fun d => d.parameters.length) = some 1 := by decide +kernel
noncomputable def F_X5_isLetter (x1 : Int32) (w : FW) : Option (Int32) :=
  (F_X5_isConsonant x1 w).bind (fun r1 => (if r1 = 0 then (F_X5_vowel x1 w).bind (fun r5 => (if r5 = (-1) then some 0 else some 1)) else some 1))
set_option maxHeartbeats 4000000 in
set_option maxRecDepth 100000 in
theorem c_X5_isLetter (l : Launch) (D : va_G) (cy : Nat → ClassId) (x1 : Int32) (w : FW) (r : Int32) (hF : F_X5_isLetter x1 w = some r) : fSpec l D cy yX5_isLetter cX5_isLetter 1 (some .boolean) { frames := 2, cells := 0, slots := 0, locals := 42 } [.int x1] w w (some (.int r)) := by
  refine f_begin (by decide +kernel) (Nat.le_of_ble_eq_true rfl) (fun X hC hEn => ?_)
  unfold F_X5_isLetter at hF
  show fAt X 0 0 1 w [(0, .int x1)] [] 0
  refine f_iload_n hC dX5_isLetter_0 rfl 0 rfl ?_
  obtain ⟨r1, h2, hF⟩ := fb_open hF
  refine f_callS hC [.int x1] (c_X5_isConsonant l D cy x1 w r1 h2) q_1354 q_137 q_1352 q_1353 h9_X5_isConsonant ⟨Nat.le_of_ble_eq_true rfl, Nat.le_of_ble_eq_true rfl⟩ ⟨Nat.le_of_ble_eq_true rfl, Nat.le_of_ble_eq_true rfl⟩ (Nat.le_of_ble_eq_true rfl) rfl dX5_isLetter_1 (fun e3 => ?_)
  refine f_if_ne hC 15 dX5_isLetter_4 (by decide) (fun c4 => ?_) (fun c4 => ?_)
  · replace hF := fi_neg hF c4
    refine f_iconst (v := 1) hC dX5_isLetter_15 (by decide) ?_
    refine f_goto hC 20 dX5_isLetter_16 (by decide) ?_
    obtain rfl := Option.some.inj hF
    exact f_zret hC hEn (fSm.rf w) (nar_z (by decide)) dX5_isLetter_20
  · replace hF := fi_pos hF c4
    refine f_iload_n hC dX5_isLetter_7 rfl 0 rfl ?_
    obtain ⟨r5, h6, hF⟩ := fb_open hF
    refine f_callS hC [.int x1] (c_X5_vowel l D cy x1 w r5 h6) q_1360 q_137 q_1358 q_1359 h9_X5_vowel ⟨Nat.le_of_ble_eq_true rfl, Nat.le_of_ble_eq_true rfl⟩ ⟨Nat.le_of_ble_eq_true rfl, Nat.le_of_ble_eq_true rfl⟩ (Nat.le_of_ble_eq_true rfl) rfl dX5_isLetter_8 (fun e7 => ?_)
    refine f_iconst (v := (-1)) hC dX5_isLetter_11 (by decide) ?_
    refine f_icmp_eq hC 19 dX5_isLetter_12 (by decide) (fun c8 => ?_) (fun c8 => ?_)
    · replace hF := fi_pos hF c8
      refine f_iconst (v := 0) hC dX5_isLetter_19 (by decide) ?_
      obtain rfl := Option.some.inj hF
      exact f_zret hC hEn (fSm.rf w) (nar_z (by decide)) dX5_isLetter_20
    · replace hF := fi_neg hF c8
      refine f_iconst (v := 1) hC dX5_isLetter_15 (by decide) ?_
      refine f_goto hC 20 dX5_isLetter_16 (by decide) ?_
      obtain rfl := Option.some.inj hF
      exact f_zret hC hEn (fSm.rf w) (nar_z (by decide)) dX5_isLetter_20
theorem dX5_mod5_0 : decode cX5_mod5 0 = .ok (.iload_n 0, 1) := by decide +kernel
theorem dX5_mod5_1 : decode cX5_mod5 1 = .ok (.iconst 5, 1) := by decide +kernel
theorem dX5_mod5_2 : decode cX5_mod5 2 = .ok (.irem, 1) := by decide +kernel
theorem dX5_mod5_3 : decode cX5_mod5 3 = .ok (.iconst 5, 1) := by decide +kernel
theorem dX5_mod5_4 : decode cX5_mod5 4 = .ok (.iadd, 1) := by decide +kernel
theorem dX5_mod5_5 : decode cX5_mod5 5 = .ok (.iconst 5, 1) := by decide +kernel
theorem dX5_mod5_6 : decode cX5_mod5 6 = .ok (.irem, 1) := by decide +kernel
theorem dX5_mod5_7 : decode cX5_mod5 7 = .ok (.ireturn, 1) := by decide +kernel
theorem h9_X5_mod5 : yX5_mod5.cls ≠ "java/lang/invoke/MethodHandle" ∧ yX5_mod5.cls ≠ "java/lang/invoke/VarHandle" ∧ (parseMethodDescriptor yX5_mod5.desc).map (fun d => d.parameters.length) = some 1 := by decide +kernel
noncomputable def F_X5_mod5 (x1 : Int32) (w : FW) : Option (Int32) :=
  some (frem ((frem x1 5) + 5) 5)
set_option maxHeartbeats 4000000 in
set_option maxRecDepth 100000 in
theorem c_X5_mod5 (l : Launch) (D : va_G) (cy : Nat → ClassId) (x1 : Int32) (w : FW) (r : Int32) (hF : F_X5_mod5 x1 w = some r) : fSpec l D cy yX5_mod5 cX5_mod5 1 (some .int) { frames := 0, cells := 0, slots := 0, locals := 0 } [.int x1] w w (some (.int r)) := by
  refine f_begin (by decide +kernel) (Nat.le_of_ble_eq_true rfl) (fun X hC hEn => ?_)
  unfold F_X5_mod5 at hF
  show fAt X 0 0 1 w [(0, .int x1)] [] 0
  refine f_iload_n hC dX5_mod5_0 rfl 0 rfl ?_
  refine f_iconst (v := 5) hC dX5_mod5_1 (by decide) ?_
  refine f_irem hC dX5_mod5_2 (by decide) ?_
  refine f_iconst (v := 5) hC dX5_mod5_3 (by decide) ?_
  refine f_iadd hC dX5_mod5_4 ?_
  refine f_iconst (v := 5) hC dX5_mod5_5 (by decide) ?_
  refine f_irem hC dX5_mod5_6 (by decide) ?_
  obtain rfl := Option.some.inj hF
  exact f_iret hC hEn (fSm.rf w) dX5_mod5_7
theorem dX5_holesAt_0 : decode cX5_holesAt 0 = .ok (.aload_n 0, 1) := by decide +kernel
theorem dX5_holesAt_1 : decode cX5_holesAt 1 = .ok (.iload_n 1, 1) := by decide +kernel
theorem dX5_holesAt_2 : decode cX5_holesAt 2 = .ok (.iload_n 3, 1) := by decide +kernel
theorem dX5_holesAt_3 : decode cX5_holesAt 3 = .ok (.invokevirtual 89, 3) := by decide +kernel
theorem dX5_holesAt_6 : decode cX5_holesAt 6 = .ok (.invokestatic 86, 3) := by decide +kernel
theorem dX5_holesAt_9 : decode cX5_holesAt 9 = .ok (.istore 4, 2) := by decide +kernel
theorem dX5_holesAt_11 : decode cX5_holesAt 11 = .ok (.iload 4, 2) := by decide +kernel
theorem dX5_holesAt_13 : decode cX5_holesAt 13 = .ok (.iconst (-1), 1) := by decide +kernel
theorem dX5_holesAt_14 : decode cX5_holesAt 14 = .ok (.if_icmp .eq 12, 3) := by decide +kernel
theorem dX5_holesAt_17 : decode cX5_holesAt 17 = .ok (.aload_n 0, 1) := by decide +kernel
theorem dX5_holesAt_18 : decode cX5_holesAt 18 = .ok (.iload_n 1, 1) := by decide +kernel
theorem dX5_holesAt_19 : decode cX5_holesAt 19 = .ok (.iload_n 2, 1) := by decide +kernel
theorem dX5_holesAt_20 : decode cX5_holesAt 20 = .ok (.invokevirtual 92, 3) := by decide +kernel
theorem dX5_holesAt_23 : decode cX5_holesAt 23 = .ok (.ifCond .ne 7, 3) := by decide +kernel
theorem dX5_holesAt_26 : decode cX5_holesAt 26 = .ok (.iconst 0, 1) := by decide +kernel
theorem dX5_holesAt_27 : decode cX5_holesAt 27 = .ok (.goto 18, 3) := by decide +kernel
theorem dX5_holesAt_30 : decode cX5_holesAt 30 = .ok (.iconst 1, 1) := by decide +kernel
theorem dX5_holesAt_31 : decode cX5_holesAt 31 = .ok (.iload 4, 2) := by decide +kernel
theorem dX5_holesAt_33 : decode cX5_holesAt 33 = .ok (.aload_n 0, 1) := by decide +kernel
theorem dX5_holesAt_34 : decode cX5_holesAt 34 = .ok (.iload_n 1, 1) := by decide +kernel
theorem dX5_holesAt_35 : decode cX5_holesAt 35 = .ok (.iload_n 2, 1) := by decide +kernel
theorem dX5_holesAt_36 : decode cX5_holesAt 36 = .ok (.iconst 0, 1) := by decide +kernel
theorem dX5_holesAt_37 : decode cX5_holesAt 37 = .ok (.invokevirtual 78, 3) := by decide +kernel
theorem dX5_holesAt_40 : decode cX5_holesAt 40 = .ok (.iadd, 1) := by decide +kernel
theorem dX5_holesAt_41 : decode cX5_holesAt 41 = .ok (.invokestatic 96, 3) := by decide +kernel
theorem dX5_holesAt_44 : decode cX5_holesAt 44 = .ok (.iadd, 1) := by decide +kernel
theorem dX5_holesAt_45 : decode cX5_holesAt 45 = .ok (.ireturn, 1) := by decide +kernel
theorem h9_X5_holesAt : yX5_holesAt.cls ≠ "java/lang/invoke/MethodHandle" ∧ yX5_holesAt.cls ≠ "java/lang/invoke/VarHandle" ∧ (parseMethodDescriptor yX5_holesAt.desc).map (fun d => d.parameters.length) = some 3 := by decide +kernel
noncomputable def F_X5_holesAt (a0 : Nat) (x1 : Int32) (x2 : Int32) (x3 : Int32) (w : FW) : Option (Int32) :=
  fg (w.1 a0 = 6) inferInstance ((F_X5_letterOf a0 x1 x3 w).bind (fun r1 => (F_X5_vowel r1 w).bind (fun r5 => (if r5 = (-1) then some 0 else (F_X5_isPunched a0 x1 x2 w).bind (fun r9 => (if r9 = 0 then some 0 else (F_X5_half a0 x1 x2 0 w).bind (fun r13 => (F_X5_mod5 (r5 + r13) w).bind (fun r16 => some (1 + r16)))))))))
set_option maxHeartbeats 4000000 in
set_option maxRecDepth 100000 in
theorem c_X5_holesAt (l : Launch) (D : va_G) (cy : Nat → ClassId) (a0 : Nat) (x1 : Int32) (x2 : Int32) (x3 : Int32) (w : FW) (r : Int32) (hF : F_X5_holesAt a0 x1 x2 x3 w = some r) : fSpec l D cy yX5_holesAt cX5_holesAt 5 (some .int) { frames := 3, cells := 0, slots := 0, locals := 67 } [.ref a0, .int x1, .int x2, .int x3] w w (some (.int r)) := by
  refine f_begin (by decide +kernel) (Nat.le_of_ble_eq_true rfl) (fun X hC hEn => ?_)
  unfold F_X5_holesAt at hF
  show fAt X 0 0 5 w [(0, .ref a0), (1, .int x1), (2, .int x2), (3, .int x3)] [] 0
  refine f_aload_n hC dX5_holesAt_0 rfl 0 rfl ?_
  refine f_iload_n hC dX5_holesAt_1 rfl 1 rfl ?_
  refine f_iload_n hC dX5_holesAt_2 rfl 3 rfl ?_
  obtain ⟨g3, hF⟩ := fg_open hF
  obtain ⟨r1, h2, hF⟩ := fb_open hF
  refine f_callV hC [.int x1, .int x3] (c_X5_letterOf l D cy a0 x1 x3 w r1 h2) q_1460 q_137 q_1457 q_1459 q_93 h9_X5_letterOf rfl (fSm.k (fSm.rf w) g3) ⟨Nat.le_of_ble_eq_true rfl, Nat.le_of_ble_eq_true rfl⟩ ⟨Nat.le_of_ble_eq_true rfl, Nat.le_of_ble_eq_true rfl⟩ (Nat.le_of_ble_eq_true rfl) rfl dX5_holesAt_3 (fun e4 => ?_)
  obtain ⟨r5, h6, hF⟩ := fb_open hF
  refine f_callS hC [.int r1] (c_X5_vowel l D cy r1 w r5 h6) q_1360 q_137 q_1358 q_1359 h9_X5_vowel ⟨Nat.le_of_ble_eq_true rfl, Nat.le_of_ble_eq_true rfl⟩ ⟨Nat.le_of_ble_eq_true rfl, Nat.le_of_ble_eq_true rfl⟩ (Nat.le_of_ble_eq_true rfl) rfl dX5_holesAt_6 (fun e7 => ?_)
  refine f_istore (L' := [(4, .int r5), (0, .ref a0), (1, .int x1), (2, .int x2), (3, .int x3)]) hC dX5_holesAt_9 (by decide) rfl ?_
  refine f_iload hC dX5_holesAt_11 0 rfl ?_
  refine f_iconst (v := (-1)) hC dX5_holesAt_13 (by decide) ?_
  refine f_icmp_eq hC 26 dX5_holesAt_14 (by decide) (fun c8 => ?_) (fun c8 => ?_)
  · replace hF := fi_pos hF c8
    refine f_iconst (v := 0) hC dX5_holesAt_26 (by decide) ?_
    refine f_goto hC 45 dX5_holesAt_27 (by decide) ?_
    obtain rfl := Option.some.inj hF
    exact f_iret hC hEn (fSm.rf w) dX5_holesAt_45
  · replace hF := fi_neg hF c8
    refine f_aload_n hC dX5_holesAt_17 rfl 1 rfl ?_
    refine f_iload_n hC dX5_holesAt_18 rfl 2 rfl ?_
    refine f_iload_n hC dX5_holesAt_19 rfl 3 rfl ?_
    obtain ⟨r9, h10, hF⟩ := fb_open hF
    refine f_callV hC [.int x1, .int x2] (c_X5_isPunched l D cy a0 x1 x2 w r9 h10) q_1479 q_137 q_1476 q_1478 q_95 h9_X5_isPunched rfl (fSm.k (fSm.rf w) g3) ⟨Nat.le_of_ble_eq_true rfl, Nat.le_of_ble_eq_true rfl⟩ ⟨Nat.le_of_ble_eq_true rfl, Nat.le_of_ble_eq_true rfl⟩ (Nat.le_of_ble_eq_true rfl) rfl dX5_holesAt_20 (fun e11 => ?_)
    refine f_if_ne hC 30 dX5_holesAt_23 (by decide) (fun c12 => ?_) (fun c12 => ?_)
    · replace hF := fi_neg hF c12
      refine f_iconst (v := 1) hC dX5_holesAt_30 (by decide) ?_
      refine f_iload hC dX5_holesAt_31 0 rfl ?_
      refine f_aload_n hC dX5_holesAt_33 rfl 1 rfl ?_
      refine f_iload_n hC dX5_holesAt_34 rfl 2 rfl ?_
      refine f_iload_n hC dX5_holesAt_35 rfl 3 rfl ?_
      refine f_iconst (v := 0) hC dX5_holesAt_36 (by decide) ?_
      obtain ⟨r13, h14, hF⟩ := fb_open hF
      refine f_callV hC [.int x1, .int x2, .int 0] (c_X5_half l D cy a0 x1 x2 0 w r13 h14) q_1483 q_137 q_1480 q_1482 q_96 h9_X5_half rfl (fSm.k (fSm.rf w) g3) ⟨Nat.le_of_ble_eq_true rfl, Nat.le_of_ble_eq_true rfl⟩ ⟨Nat.le_of_ble_eq_true rfl, Nat.le_of_ble_eq_true rfl⟩ (Nat.le_of_ble_eq_true rfl) rfl dX5_holesAt_37 (fun e15 => ?_)
      refine f_iadd hC dX5_holesAt_40 ?_
      obtain ⟨r16, h17, hF⟩ := fb_open hF
      refine f_callS hC [.int (r5 + r13)] (c_X5_mod5 l D cy (r5 + r13) w r16 h17) q_1494 q_137 q_1492 q_1493 h9_X5_mod5 ⟨Nat.le_of_ble_eq_true rfl, Nat.le_of_ble_eq_true rfl⟩ ⟨Nat.le_of_ble_eq_true rfl, Nat.le_of_ble_eq_true rfl⟩ (Nat.le_of_ble_eq_true rfl) rfl dX5_holesAt_41 (fun e18 => ?_)
      refine f_iadd hC dX5_holesAt_44 ?_
      obtain rfl := Option.some.inj hF
      exact f_iret hC hEn (fSm.rf w) dX5_holesAt_45
    · replace hF := fi_pos hF c12
      refine f_iconst (v := 0) hC dX5_holesAt_26 (by decide) ?_
      refine f_goto hC 45 dX5_holesAt_27 (by decide) ?_
      obtain rfl := Option.some.inj hF
      exact f_iret hC hEn (fSm.rf w) dX5_holesAt_45
theorem dX5_leftAt_0 : decode cX5_leftAt 0 = .ok (.aload_n 0, 1) := by decide +kernel
theorem dX5_leftAt_1 : decode cX5_leftAt 1 = .ok (.iload_n 1, 1) := by decide +kernel
theorem dX5_leftAt_2 : decode cX5_leftAt 2 = .ok (.iload_n 2, 1) := by decide +kernel
theorem dX5_leftAt_3 : decode cX5_leftAt 3 = .ok (.iload_n 3, 1) := by decide +kernel
theorem dX5_leftAt_4 : decode cX5_leftAt 4 = .ok (.invokevirtual 99, 3) := by decide +kernel
theorem dX5_leftAt_7 : decode cX5_leftAt 7 = .ok (.iload 4, 2) := by decide +kernel
theorem dX5_leftAt_9 : decode cX5_leftAt 9 = .ok (.iconst 3, 1) := by decide +kernel
theorem dX5_leftAt_10 : decode cX5_leftAt 10 = .ok (.idiv, 1) := by decide +kernel
theorem dX5_leftAt_11 : decode cX5_leftAt 11 = .ok (.isub, 1) := by decide +kernel
theorem dX5_leftAt_12 : decode cX5_leftAt 12 = .ok (.istore 5, 2) := by decide +kernel
theorem dX5_leftAt_14 : decode cX5_leftAt 14 = .ok (.iload 5, 2) := by decide +kernel
theorem dX5_leftAt_16 : decode cX5_leftAt 16 = .ok (.ifCond .ge 7, 3) := by decide +kernel
theorem dX5_leftAt_19 : decode cX5_leftAt 19 = .ok (.iconst 0, 1) := by decide +kernel
theorem dX5_leftAt_20 : decode cX5_leftAt 20 = .ok (.goto 5, 3) := by decide +kernel
theorem dX5_leftAt_23 : decode cX5_leftAt 23 = .ok (.iload 5, 2) := by decide +kernel
theorem dX5_leftAt_25 : decode cX5_leftAt 25 = .ok (.ireturn, 1) := by decide +kernel
theorem h9_X5_leftAt : yX5_leftAt.cls ≠ "java/lang/invoke/MethodHandle" ∧ yX5_leftAt.cls ≠ "java/lang/invoke/VarHandle" ∧ (parseMethodDescriptor yX5_leftAt.desc).map (fun d => d.parameters.length) = some 4 := by decide +kernel
noncomputable def F_X5_leftAt (a0 : Nat) (x1 : Int32) (x2 : Int32) (x3 : Int32) (x4 : Int32) (w : FW) : Option (Int32) :=
  fg (w.1 a0 = 6) inferInstance ((F_X5_holesAt a0 x1 x2 x3 w).bind (fun r1 => (if 0 ≤ (r1 - (x4 / 3)) then some (r1 - (x4 / 3)) else some 0)))
set_option maxHeartbeats 4000000 in
set_option maxRecDepth 100000 in
theorem c_X5_leftAt (l : Launch) (D : va_G) (cy : Nat → ClassId) (a0 : Nat) (x1 : Int32) (x2 : Int32) (x3 : Int32) (x4 : Int32) (w : FW) (r : Int32) (hF : F_X5_leftAt a0 x1 x2 x3 x4 w = some r) : fSpec l D cy yX5_leftAt cX5_leftAt 6 (some .int) { frames := 4, cells := 0, slots := 0, locals := 91 } [.ref a0, .int x1, .int x2, .int x3, .int x4] w w (some (.int r)) := by
  refine f_begin (by decide +kernel) (Nat.le_of_ble_eq_true rfl) (fun X hC hEn => ?_)
  unfold F_X5_leftAt at hF
  show fAt X 0 0 6 w [(0, .ref a0), (1, .int x1), (2, .int x2), (3, .int x3), (4, .int x4)] [] 0
  refine f_aload_n hC dX5_leftAt_0 rfl 0 rfl ?_
  refine f_iload_n hC dX5_leftAt_1 rfl 1 rfl ?_
  refine f_iload_n hC dX5_leftAt_2 rfl 2 rfl ?_
  refine f_iload_n hC dX5_leftAt_3 rfl 3 rfl ?_
  obtain ⟨g3, hF⟩ := fg_open hF
  obtain ⟨r1, h2, hF⟩ := fb_open hF
  refine f_callV hC [.int x1, .int x2, .int x3] (c_X5_holesAt l D cy a0 x1 x2 x3 w r1 h2) q_1491 q_137 q_1488 q_1490 q_98 h9_X5_holesAt rfl (fSm.k (fSm.rf w) g3) ⟨Nat.le_of_ble_eq_true rfl, Nat.le_of_ble_eq_true rfl⟩ ⟨Nat.le_of_ble_eq_true rfl, Nat.le_of_ble_eq_true rfl⟩ (Nat.le_of_ble_eq_true rfl) rfl dX5_leftAt_4 (fun e4 => ?_)
  refine f_iload hC dX5_leftAt_7 4 rfl ?_
  refine f_iconst (v := 3) hC dX5_leftAt_9 (by decide) ?_
  refine f_idiv hC dX5_leftAt_10 (by decide) ?_
  refine f_isub hC dX5_leftAt_11 ?_
  refine f_istore (L' := [(5, .int (r1 - (x4 / 3))), (0, .ref a0), (1, .int x1), (2, .int x2), (3, .int x3), (4, .int x4)]) hC dX5_leftAt_12 (by decide) rfl ?_
  refine f_iload hC dX5_leftAt_14 0 rfl ?_
  refine f_if_ge hC 23 dX5_leftAt_16 (by decide) (fun c5 => ?_) (fun c5 => ?_)
  · replace hF := fi_pos hF c5
    refine f_iload hC dX5_leftAt_23 0 rfl ?_
    obtain rfl := Option.some.inj hF
    exact f_iret hC hEn (fSm.rf w) dX5_leftAt_25
  · replace hF := fi_neg hF c5
    refine f_iconst (v := 0) hC dX5_leftAt_19 (by decide) ?_
    refine f_goto hC 25 dX5_leftAt_20 (by decide) ?_
    obtain rfl := Option.some.inj hF
    exact f_iret hC hEn (fSm.rf w) dX5_leftAt_25
theorem dX5_vowelFor_0 : decode cX5_vowelFor 0 = .ok (.iload_n 0, 1) := by decide +kernel
theorem dX5_vowelFor_1 : decode cX5_vowelFor 1 = .ok (.ifCond .ne 8, 3) := by decide +kernel
theorem dX5_vowelFor_4 : decode cX5_vowelFor 4 = .ok (.bipush 97, 2) := by decide +kernel
theorem dX5_vowelFor_6 : decode cX5_vowelFor 6 = .ok (.goto 35, 3) := by decide +kernel
theorem dX5_vowelFor_9 : decode cX5_vowelFor 9 = .ok (.iload_n 0, 1) := by decide +kernel
theorem dX5_vowelFor_10 : decode cX5_vowelFor 10 = .ok (.iconst 1, 1) := by decide +kernel
theorem dX5_vowelFor_11 : decode cX5_vowelFor 11 = .ok (.if_icmp .ne 8, 3) := by decide +kernel
theorem dX5_vowelFor_14 : decode cX5_vowelFor 14 = .ok (.bipush 101, 2) := by decide +kernel
theorem dX5_vowelFor_16 : decode cX5_vowelFor 16 = .ok (.goto 25, 3) := by decide +kernel
theorem dX5_vowelFor_19 : decode cX5_vowelFor 19 = .ok (.iload_n 0, 1) := by decide +kernel
theorem dX5_vowelFor_20 : decode cX5_vowelFor 20 = .ok (.iconst 2, 1) := by decide +kernel
theorem dX5_vowelFor_21 : decode cX5_vowelFor 21 = .ok (.if_icmp .ne 8, 3) := by decide +kernel
theorem dX5_vowelFor_24 : decode cX5_vowelFor 24 = .ok (.bipush 105, 2) := by decide +kernel
theorem dX5_vowelFor_26 : decode cX5_vowelFor 26 = .ok (.goto 15, 3) := by decide +kernel
theorem dX5_vowelFor_29 : decode cX5_vowelFor 29 = .ok (.iload_n 0, 1) := by decide +kernel
theorem dX5_vowelFor_30 : decode cX5_vowelFor 30 = .ok (.iconst 3, 1) := by decide +kernel
theorem dX5_vowelFor_31 : decode cX5_vowelFor 31 = .ok (.if_icmp .ne 8, 3) := by decide +kernel
theorem dX5_vowelFor_34 : decode cX5_vowelFor 34 = .ok (.bipush 111, 2) := by decide +kernel
theorem dX5_vowelFor_36 : decode cX5_vowelFor 36 = .ok (.goto 5, 3) := by decide +kernel
theorem dX5_vowelFor_39 : decode cX5_vowelFor 39 = .ok (.bipush 117, 2) := by decide +kernel
theorem dX5_vowelFor_41 : decode cX5_vowelFor 41 = .ok (.ireturn, 1) := by decide +kernel
theorem h9_X5_vowelFor : yX5_vowelFor.cls ≠ "java/lang/invoke/MethodHandle" ∧ yX5_vowelFor.cls ≠ "java/lang/invoke/VarHandle" ∧ (parseMethodDescriptor yX5_vowelFor.desc).map (fun d => d.parameters.length) = some 1 := by decide +kernel
noncomputable def F_X5_vowelFor (x1 : Int32) (w : FW) : Option (Int32) :=
  (if x1 = 0 then some 97 else (if x1 = 1 then some 101 else (if x1 = 2 then some 105 else (if x1 = 3 then some 111 else some 117))))
set_option maxHeartbeats 4000000 in
set_option maxRecDepth 100000 in
theorem c_X5_vowelFor (l : Launch) (D : va_G) (cy : Nat → ClassId) (x1 : Int32) (w : FW) (r : Int32) (hF : F_X5_vowelFor x1 w = some r) : fSpec l D cy yX5_vowelFor cX5_vowelFor 1 (some .int) { frames := 0, cells := 0, slots := 0, locals := 0 } [.int x1] w w (some (.int r)) := by
  refine f_begin (by decide +kernel) (Nat.le_of_ble_eq_true rfl) (fun X hC hEn => ?_)
  unfold F_X5_vowelFor at hF
  show fAt X 0 0 1 w [(0, .int x1)] [] 0
  refine f_iload_n hC dX5_vowelFor_0 rfl 0 rfl ?_
  refine f_if_ne hC 9 dX5_vowelFor_1 (by decide) (fun c1 => ?_) (fun c1 => ?_)
  · replace hF := fi_neg hF c1
    refine f_iload_n hC dX5_vowelFor_9 rfl 0 rfl ?_
    refine f_iconst (v := 1) hC dX5_vowelFor_10 (by decide) ?_
    refine f_icmp_ne hC 19 dX5_vowelFor_11 (by decide) (fun c2 => ?_) (fun c2 => ?_)
    · replace hF := fi_neg hF c2
      refine f_iload_n hC dX5_vowelFor_19 rfl 0 rfl ?_
      refine f_iconst (v := 2) hC dX5_vowelFor_20 (by decide) ?_
      refine f_icmp_ne hC 29 dX5_vowelFor_21 (by decide) (fun c3 => ?_) (fun c3 => ?_)
      · replace hF := fi_neg hF c3
        refine f_iload_n hC dX5_vowelFor_29 rfl 0 rfl ?_
        refine f_iconst (v := 3) hC dX5_vowelFor_30 (by decide) ?_
        refine f_icmp_ne hC 39 dX5_vowelFor_31 (by decide) (fun c4 => ?_) (fun c4 => ?_)
        · replace hF := fi_neg hF c4
          refine f_bipush (v := 117) hC dX5_vowelFor_39 (by decide) ?_
          obtain rfl := Option.some.inj hF
          exact f_iret hC hEn (fSm.rf w) dX5_vowelFor_41
        · replace hF := fi_pos hF c4
          refine f_bipush (v := 111) hC dX5_vowelFor_34 (by decide) ?_
          refine f_goto hC 41 dX5_vowelFor_36 (by decide) ?_
          obtain rfl := Option.some.inj hF
          exact f_iret hC hEn (fSm.rf w) dX5_vowelFor_41
      · replace hF := fi_pos hF c3
        refine f_bipush (v := 105) hC dX5_vowelFor_24 (by decide) ?_
        refine f_goto hC 41 dX5_vowelFor_26 (by decide) ?_
        obtain rfl := Option.some.inj hF
        exact f_iret hC hEn (fSm.rf w) dX5_vowelFor_41
    · replace hF := fi_pos hF c2
      refine f_bipush (v := 101) hC dX5_vowelFor_14 (by decide) ?_
      refine f_goto hC 41 dX5_vowelFor_16 (by decide) ?_
      obtain rfl := Option.some.inj hF
      exact f_iret hC hEn (fSm.rf w) dX5_vowelFor_41
  · replace hF := fi_pos hF c1
    refine f_bipush (v := 97) hC dX5_vowelFor_4 (by decide) ?_
    refine f_goto hC 41 dX5_vowelFor_6 (by decide) ?_
    obtain rfl := Option.some.inj hF
    exact f_iret hC hEn (fSm.rf w) dX5_vowelFor_41
theorem dX5_readWith_0 : decode cX5_readWith 0 = .ok (.aload_n 0, 1) := by decide +kernel
theorem dX5_readWith_1 : decode cX5_readWith 1 = .ok (.iload_n 1, 1) := by decide +kernel
theorem dX5_readWith_2 : decode cX5_readWith 2 = .ok (.iload_n 3, 1) := by decide +kernel
theorem dX5_readWith_3 : decode cX5_readWith 3 = .ok (.invokevirtual 89, 3) := by decide +kernel
theorem dX5_readWith_6 : decode cX5_readWith 6 = .ok (.invokestatic 86, 3) := by decide +kernel
theorem dX5_readWith_9 : decode cX5_readWith 9 = .ok (.iconst (-1), 1) := by decide +kernel
theorem dX5_readWith_10 : decode cX5_readWith 10 = .ok (.if_icmp .ne 10, 3) := by decide +kernel
theorem dX5_readWith_13 : decode cX5_readWith 13 = .ok (.aload_n 0, 1) := by decide +kernel
theorem dX5_readWith_14 : decode cX5_readWith 14 = .ok (.iload_n 1, 1) := by decide +kernel
theorem dX5_readWith_15 : decode cX5_readWith 15 = .ok (.iload_n 3, 1) := by decide +kernel
theorem dX5_readWith_16 : decode cX5_readWith 16 = .ok (.invokevirtual 89, 3) := by decide +kernel
theorem dX5_readWith_19 : decode cX5_readWith 19 = .ok (.ireturn, 1) := by decide +kernel
theorem dX5_readWith_20 : decode cX5_readWith 20 = .ok (.aload_n 0, 1) := by decide +kernel
theorem dX5_readWith_21 : decode cX5_readWith 21 = .ok (.iload_n 1, 1) := by decide +kernel
theorem dX5_readWith_22 : decode cX5_readWith 22 = .ok (.iload_n 2, 1) := by decide +kernel
theorem dX5_readWith_23 : decode cX5_readWith 23 = .ok (.iload_n 3, 1) := by decide +kernel
theorem dX5_readWith_24 : decode cX5_readWith 24 = .ok (.iload 4, 2) := by decide +kernel
theorem dX5_readWith_26 : decode cX5_readWith 26 = .ok (.invokevirtual 102, 3) := by decide +kernel
theorem dX5_readWith_29 : decode cX5_readWith 29 = .ok (.istore 6, 2) := by decide +kernel
theorem dX5_readWith_31 : decode cX5_readWith 31 = .ok (.iload 6, 2) := by decide +kernel
theorem dX5_readWith_33 : decode cX5_readWith 33 = .ok (.ifCond .ne 8, 3) := by decide +kernel
theorem dX5_readWith_36 : decode cX5_readWith 36 = .ok (.bipush 63, 2) := by decide +kernel
theorem dX5_readWith_38 : decode cX5_readWith 38 = .ok (.goto 16, 3) := by decide +kernel
theorem dX5_readWith_41 : decode cX5_readWith 41 = .ok (.iload 6, 2) := by decide +kernel
theorem dX5_readWith_43 : decode cX5_readWith 43 = .ok (.iconst 1, 1) := by decide +kernel
theorem dX5_readWith_44 : decode cX5_readWith 44 = .ok (.isub, 1) := by decide +kernel
theorem dX5_readWith_45 : decode cX5_readWith 45 = .ok (.iload 5, 2) := by decide +kernel
theorem dX5_readWith_47 : decode cX5_readWith 47 = .ok (.isub, 1) := by decide +kernel
theorem dX5_readWith_48 : decode cX5_readWith 48 = .ok (.invokestatic 96, 3) := by decide +kernel
theorem dX5_readWith_51 : decode cX5_readWith 51 = .ok (.invokestatic 106, 3) := by decide +kernel
theorem dX5_readWith_54 : decode cX5_readWith 54 = .ok (.ireturn, 1) := by decide +kernel
theorem h9_X5_readWith : yX5_readWith.cls ≠ "java/lang/invoke/MethodHandle" ∧ yX5_readWith.cls ≠ "java/lang/invoke/VarHandle" ∧ (parseMethodDescriptor yX5_readWith.desc).map (fun d => d.parameters.length) = some 5 := by decide +kernel
noncomputable def F_X5_readWith (a0 : Nat) (x1 : Int32) (x2 : Int32) (x3 : Int32) (x4 : Int32) (x5 : Int32) (w : FW) : Option (Int32) :=
  fg (w.1 a0 = 6) inferInstance ((F_X5_letterOf a0 x1 x3 w).bind (fun r1 => (F_X5_vowel r1 w).bind (fun r5 => (if r5 = (-1) then (F_X5_letterOf a0 x1 x3 w).bind (fun r19 => some r19) else (F_X5_leftAt a0 x1 x2 x3 x4 w).bind (fun r9 => (if r9 = 0 then some 63 else (F_X5_mod5 ((r9 - 1) - x5) w).bind (fun r13 => (F_X5_vowelFor r13 w).bind (fun r16 => some r16))))))))
set_option maxHeartbeats 4000000 in
set_option maxRecDepth 100000 in
theorem c_X5_readWith (l : Launch) (D : va_G) (cy : Nat → ClassId) (a0 : Nat) (x1 : Int32) (x2 : Int32) (x3 : Int32) (x4 : Int32) (x5 : Int32) (w : FW) (r : Int32) (hF : F_X5_readWith a0 x1 x2 x3 x4 x5 w = some r) : fSpec l D cy yX5_readWith cX5_readWith 7 (some .int) { frames := 5, cells := 0, slots := 0, locals := 116 } [.ref a0, .int x1, .int x2, .int x3, .int x4, .int x5] w w (some (.int r)) := by
  refine f_begin (by decide +kernel) (Nat.le_of_ble_eq_true rfl) (fun X hC hEn => ?_)
  unfold F_X5_readWith at hF
  show fAt X 0 0 7 w [(0, .ref a0), (1, .int x1), (2, .int x2), (3, .int x3), (4, .int x4), (5, .int x5)] [] 0
  refine f_aload_n hC dX5_readWith_0 rfl 0 rfl ?_
  refine f_iload_n hC dX5_readWith_1 rfl 1 rfl ?_
  refine f_iload_n hC dX5_readWith_2 rfl 3 rfl ?_
  obtain ⟨g3, hF⟩ := fg_open hF
  obtain ⟨r1, h2, hF⟩ := fb_open hF
  refine f_callV hC [.int x1, .int x3] (c_X5_letterOf l D cy a0 x1 x3 w r1 h2) q_1460 q_137 q_1457 q_1459 q_93 h9_X5_letterOf rfl (fSm.k (fSm.rf w) g3) ⟨Nat.le_of_ble_eq_true rfl, Nat.le_of_ble_eq_true rfl⟩ ⟨Nat.le_of_ble_eq_true rfl, Nat.le_of_ble_eq_true rfl⟩ (Nat.le_of_ble_eq_true rfl) rfl dX5_readWith_3 (fun e4 => ?_)
  obtain ⟨r5, h6, hF⟩ := fb_open hF
  refine f_callS hC [.int r1] (c_X5_vowel l D cy r1 w r5 h6) q_1360 q_137 q_1358 q_1359 h9_X5_vowel ⟨Nat.le_of_ble_eq_true rfl, Nat.le_of_ble_eq_true rfl⟩ ⟨Nat.le_of_ble_eq_true rfl, Nat.le_of_ble_eq_true rfl⟩ (Nat.le_of_ble_eq_true rfl) rfl dX5_readWith_6 (fun e7 => ?_)
  refine f_iconst (v := (-1)) hC dX5_readWith_9 (by decide) ?_
  refine f_icmp_ne hC 20 dX5_readWith_10 (by decide) (fun c8 => ?_) (fun c8 => ?_)
  · replace hF := fi_neg hF c8
    refine f_aload_n hC dX5_readWith_20 rfl 0 rfl ?_
    refine f_iload_n hC dX5_readWith_21 rfl 1 rfl ?_
    refine f_iload_n hC dX5_readWith_22 rfl 2 rfl ?_
    refine f_iload_n hC dX5_readWith_23 rfl 3 rfl ?_
    refine f_iload hC dX5_readWith_24 4 rfl ?_
    obtain ⟨r9, h10, hF⟩ := fb_open hF
    refine f_callV hC [.int x1, .int x2, .int x3, .int x4] (c_X5_leftAt l D cy a0 x1 x2 x3 x4 w r9 h10) q_1546 q_137 q_1543 q_1545 q_106 h9_X5_leftAt rfl (fSm.k (fSm.rf w) g3) ⟨Nat.le_of_ble_eq_true rfl, Nat.le_of_ble_eq_true rfl⟩ ⟨Nat.le_of_ble_eq_true rfl, Nat.le_of_ble_eq_true rfl⟩ (Nat.le_of_ble_eq_true rfl) rfl dX5_readWith_26 (fun e11 => ?_)
    refine f_istore (L' := [(6, .int r9), (0, .ref a0), (1, .int x1), (2, .int x2), (3, .int x3), (4, .int x4), (5, .int x5)]) hC dX5_readWith_29 (by decide) rfl ?_
    refine f_iload hC dX5_readWith_31 0 rfl ?_
    refine f_if_ne hC 41 dX5_readWith_33 (by decide) (fun c12 => ?_) (fun c12 => ?_)
    · replace hF := fi_neg hF c12
      refine f_iload hC dX5_readWith_41 0 rfl ?_
      refine f_iconst (v := 1) hC dX5_readWith_43 (by decide) ?_
      refine f_isub hC dX5_readWith_44 ?_
      refine f_iload hC dX5_readWith_45 6 rfl ?_
      refine f_isub hC dX5_readWith_47 ?_
      obtain ⟨r13, h14, hF⟩ := fb_open hF
      refine f_callS hC [.int ((r9 - 1) - x5)] (c_X5_mod5 l D cy ((r9 - 1) - x5) w r13 h14) q_1494 q_137 q_1492 q_1493 h9_X5_mod5 ⟨Nat.le_of_ble_eq_true rfl, Nat.le_of_ble_eq_true rfl⟩ ⟨Nat.le_of_ble_eq_true rfl, Nat.le_of_ble_eq_true rfl⟩ (Nat.le_of_ble_eq_true rfl) rfl dX5_readWith_48 (fun e15 => ?_)
      obtain ⟨r16, h17, hF⟩ := fb_open hF
      refine f_callS hC [.int r13] (c_X5_vowelFor l D cy r13 w r16 h17) q_1557 q_137 q_1555 q_1556 h9_X5_vowelFor ⟨Nat.le_of_ble_eq_true rfl, Nat.le_of_ble_eq_true rfl⟩ ⟨Nat.le_of_ble_eq_true rfl, Nat.le_of_ble_eq_true rfl⟩ (Nat.le_of_ble_eq_true rfl) rfl dX5_readWith_51 (fun e18 => ?_)
      obtain rfl := Option.some.inj hF
      exact f_iret hC hEn (fSm.rf w) dX5_readWith_54
    · replace hF := fi_pos hF c12
      refine f_bipush (v := 63) hC dX5_readWith_36 (by decide) ?_
      refine f_goto hC 54 dX5_readWith_38 (by decide) ?_
      obtain rfl := Option.some.inj hF
      exact f_iret hC hEn (fSm.rf w) dX5_readWith_54
  · replace hF := fi_pos hF c8
    refine f_aload_n hC dX5_readWith_13 rfl 0 rfl ?_
    refine f_iload_n hC dX5_readWith_14 rfl 1 rfl ?_
    refine f_iload_n hC dX5_readWith_15 rfl 3 rfl ?_
    obtain ⟨r19, h20, hF⟩ := fb_open hF
    refine f_callV hC [.int x1, .int x3] (c_X5_letterOf l D cy a0 x1 x3 w r19 h20) q_1460 q_137 q_1457 q_1459 q_93 h9_X5_letterOf rfl (fSm.k (fSm.rf w) g3) ⟨Nat.le_of_ble_eq_true rfl, Nat.le_of_ble_eq_true rfl⟩ ⟨Nat.le_of_ble_eq_true rfl, Nat.le_of_ble_eq_true rfl⟩ (Nat.le_of_ble_eq_true rfl) rfl dX5_readWith_16 (fun e21 => ?_)
    obtain rfl := Option.some.inj hF
    exact f_iret hC hEn (fSm.rf w) dX5_readWith_19
