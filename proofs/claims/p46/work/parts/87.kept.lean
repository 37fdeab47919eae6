theorem dL_isKept_0 : decode cL_isKept 0 = .ok (.aload_n 0, 1) := by decide +kernel
theorem dL_isKept_1 : decode cL_isKept 1 = .ok (.iconst 0, 1) := by decide +kernel
theorem dL_isKept_2 : decode cL_isKept 2 = .ok (.invokestatic 189, 3) := by decide +kernel
theorem dL_isKept_5 : decode cL_isKept 5 = .ok (.istore_n 3, 1) := by decide +kernel
theorem dL_isKept_6 : decode cL_isKept 6 = .ok (.aload_n 0, 1) := by decide +kernel
theorem dL_isKept_7 : decode cL_isKept 7 = .ok (.invokevirtual 353, 3) := by decide +kernel
theorem dL_isKept_10 : decode cL_isKept 10 = .ok (.iload_n 3, 1) := by decide +kernel
theorem dL_isKept_11 : decode cL_isKept 11 = .ok (.if_icmp .ne 18, 3) := by decide +kernel
theorem dL_isKept_14 : decode cL_isKept 14 = .ok (.aload_n 0, 1) := by decide +kernel
theorem dL_isKept_15 : decode cL_isKept 15 = .ok (.bipush 13, 2) := by decide +kernel
theorem dL_isKept_17 : decode cL_isKept 17 = .ok (.invokestatic 189, 3) := by decide +kernel
theorem dL_isKept_20 : decode cL_isKept 20 = .ok (.bipush 8, 2) := by decide +kernel
theorem dL_isKept_22 : decode cL_isKept 22 = .ok (.iload_n 2, 1) := by decide +kernel
theorem dL_isKept_23 : decode cL_isKept 23 = .ok (.invokestatic 356, 3) := by decide +kernel
theorem dL_isKept_26 : decode cL_isKept 26 = .ok (.if_icmp .eq 5, 3) := by decide +kernel
theorem dL_isKept_29 : decode cL_isKept 29 = .ok (.iconst 0, 1) := by decide +kernel
theorem dL_isKept_30 : decode cL_isKept 30 = .ok (.ireturn, 1) := by decide +kernel
theorem dL_isKept_31 : decode cL_isKept 31 = .ok (.bipush 8, 2) := by decide +kernel
theorem dL_isKept_33 : decode cL_isKept 33 = .ok (.iload_n 2, 1) := by decide +kernel
theorem dL_isKept_34 : decode cL_isKept 34 = .ok (.invokestatic 356, 3) := by decide +kernel
theorem dL_isKept_37 : decode cL_isKept 37 = .ok (.istore 4, 2) := by decide +kernel
theorem dL_isKept_39 : decode cL_isKept 39 = .ok (.iload_n 2, 1) := by decide +kernel
theorem dL_isKept_40 : decode cL_isKept 40 = .ok (.iconst 1, 1) := by decide +kernel
theorem dL_isKept_41 : decode cL_isKept 41 = .ok (.isub, 1) := by decide +kernel
theorem dL_isKept_42 : decode cL_isKept 42 = .ok (.istore 5, 2) := by decide +kernel
theorem dL_isKept_44 : decode cL_isKept 44 = .ok (.iload 4, 2) := by decide +kernel
theorem dL_isKept_46 : decode cL_isKept 46 = .ok (.ifCond .le 35, 3) := by decide +kernel
theorem dL_isKept_49 : decode cL_isKept 49 = .ok (.iinc 4 (-1), 3) := by decide +kernel
theorem dL_isKept_52 : decode cL_isKept 52 = .ok (.aload_n 0, 1) := by decide +kernel
theorem dL_isKept_53 : decode cL_isKept 53 = .ok (.invokestatic 359, 3) := by decide +kernel
theorem dL_isKept_56 : decode cL_isKept 56 = .ok (.iload 4, 2) := by decide +kernel
theorem dL_isKept_58 : decode cL_isKept 58 = .ok (.if_icmp .ne 15, 3) := by decide +kernel
theorem dL_isKept_61 : decode cL_isKept 61 = .ok (.aload_n 0, 1) := by decide +kernel
theorem dL_isKept_62 : decode cL_isKept 62 = .ok (.invokestatic 185, 3) := by decide +kernel
theorem dL_isKept_65 : decode cL_isKept 65 = .ok (.aload_n 1, 1) := by decide +kernel
theorem dL_isKept_66 : decode cL_isKept 66 = .ok (.iload 5, 2) := by decide +kernel
theorem dL_isKept_68 : decode cL_isKept 68 = .ok (.laload, 1) := by decide +kernel
theorem dL_isKept_69 : decode cL_isKept 69 = .ok (.lcmp, 1) := by decide +kernel
theorem dL_isKept_70 : decode cL_isKept 70 = .ok (.ifCond .eq 5, 3) := by decide +kernel
theorem dL_isKept_73 : decode cL_isKept 73 = .ok (.iconst 0, 1) := by decide +kernel
theorem dL_isKept_74 : decode cL_isKept 74 = .ok (.ireturn, 1) := by decide +kernel
theorem dL_isKept_75 : decode cL_isKept 75 = .ok (.iinc 5 (-1), 3) := by decide +kernel
theorem dL_isKept_78 : decode cL_isKept 78 = .ok (.goto (-34), 3) := by decide +kernel
theorem dL_isKept_81 : decode cL_isKept 81 = .ok (.aload_n 0, 1) := by decide +kernel
theorem dL_isKept_82 : decode cL_isKept 82 = .ok (.invokestatic 359, 3) := by decide +kernel
theorem dL_isKept_85 : decode cL_isKept 85 = .ok (.bipush (-79), 2) := by decide +kernel
theorem dL_isKept_87 : decode cL_isKept 87 = .ok (.if_icmp .ne 35, 3) := by decide +kernel
theorem dL_isKept_90 : decode cL_isKept 90 = .ok (.aload_n 0, 1) := by decide +kernel
theorem dL_isKept_91 : decode cL_isKept 91 = .ok (.invokestatic 361, 3) := by decide +kernel
theorem dL_isKept_94 : decode cL_isKept 94 = .ok (.iload_n 3, 1) := by decide +kernel
theorem dL_isKept_95 : decode cL_isKept 95 = .ok (.if_icmp .ne 27, 3) := by decide +kernel
theorem dL_isKept_98 : decode cL_isKept 98 = .ok (.aload_n 0, 1) := by decide +kernel
theorem dL_isKept_99 : decode cL_isKept 99 = .ok (.invokestatic 185, 3) := by decide +kernel
theorem dL_isKept_102 : decode cL_isKept 102 = .ok (.aload_n 1, 1) := by decide +kernel
theorem dL_isKept_103 : decode cL_isKept 103 = .ok (.iload_n 2, 1) := by decide +kernel
theorem dL_isKept_104 : decode cL_isKept 104 = .ok (.laload, 1) := by decide +kernel
theorem dL_isKept_105 : decode cL_isKept 105 = .ok (.lcmp, 1) := by decide +kernel
theorem dL_isKept_106 : decode cL_isKept 106 = .ok (.ifCond .ne 16, 3) := by decide +kernel
theorem dL_isKept_109 : decode cL_isKept 109 = .ok (.aload_n 0, 1) := by decide +kernel
theorem dL_isKept_110 : decode cL_isKept 110 = .ok (.invokestatic 359, 3) := by decide +kernel
theorem dL_isKept_113 : decode cL_isKept 113 = .ok (.bipush (-79), 2) := by decide +kernel
theorem dL_isKept_115 : decode cL_isKept 115 = .ok (.if_icmp .ne 7, 3) := by decide +kernel
theorem dL_isKept_118 : decode cL_isKept 118 = .ok (.iconst 1, 1) := by decide +kernel
theorem dL_isKept_119 : decode cL_isKept 119 = .ok (.goto 4, 3) := by decide +kernel
theorem dL_isKept_122 : decode cL_isKept 122 = .ok (.iconst 0, 1) := by decide +kernel
theorem dL_isKept_123 : decode cL_isKept 123 = .ok (.ireturn, 1) := by decide +kernel
theorem h9_L_isKept : yL_isKept.cls ≠ "java/lang/invoke/MethodHandle" ∧ yL_isKept.cls ≠ "java/lang/invoke/VarHandle" ∧ (parseMethodDescriptor yL_isKept.desc).map (fun d => d.parameters.length) = some 3 := by decide +kernel
noncomputable def F_L_isKept (a0 : Nat) (a1 : Nat) (u2 : Int32) (fs : Nat → Int64) (w : FW) : Option (Int32 × FW) :=
  (F_L_account a0 0 w).bind (fun r1 => fg (w.1 a0 = 5) inferInstance ((F_X4_snapshot a0 w).bind (fun r5 => (if r5.1 = r1 then (F_L_account a0 13 r5.2).bind (fun r13 => (F_J9_min_7cf53 8 u2 r5.2).bind (fun r17 => (if r13 = r17 then (F_J9_min_7cf53 8 u2 r5.2).bind (fun r22 => (fLoopB (σ := Int32 × Int32 × FW) (ρ := (FW) ⊕ (Int32 × FW)) (fun s26 => (if s26.1 ≤ 0 then some (.inr (.inl s26.2.2)) else (F_L_undo a0 s26.2.2).bind (fun r42 => (if r42.1 = (s26.1 + (-1)) then (F_L_sum a0 r42.2).bind (fun r49 => fg (¬ (s26.2.1 < 0 ∨ 60 ≤ Int32.toNatClampNeg s26.2.1)) inferInstance ((if (lg_cmp r49 (fs (Int32.toNatClampNeg s26.2.1))) = 0 then some (.inl ((s26.1 + (-1)), (s26.2.1 + (-1)), r42.2)) else some (.inr (.inr (0, r42.2)))))) else some (.inr (.inr (0, r42.2))))))) 9 (r22, (u2 - 1), r5.2)).bind (fun x32 => fse x32 (fun z55 => (F_L_undo a0 z55).bind (fun r56 => (if r56.1 = (-79) then (F_L_restore a0 r56.2).bind (fun r63 => (if r63.1 = r1 then (F_L_sum a0 r63.2).bind (fun r70 => fg (¬ (u2 < 0 ∨ 60 ≤ Int32.toNatClampNeg u2)) inferInstance ((if (lg_cmp r70 (fs (Int32.toNatClampNeg u2))) = 0 then (F_L_undo a0 r63.2).bind (fun r76 => (if r76.1 = (-79) then some (1, r76.2) else some (0, r76.2))) else some (0, r63.2)))) else some (0, r63.2))) else some (0, r56.2)))) (fun q9 => some q9))) else some (0, r5.2)))) else some (0, r5.2)))))
set_option maxHeartbeats 4000000 in
set_option maxRecDepth 100000 in
theorem c_L_isKept (l : Launch) (D : va_G) (cy : Nat → ClassId) (a0 : Nat) (a1 : Nat) (u2 : Int32) (fs : Nat → Int64) (w : FW) (r : Int32 × FW) (hF : F_L_isKept a0 a1 u2 fs w = some r) : lSpec l D cy yL_isKept (.code yL_isKept cL_isKept 6 (some .boolean)) { frames := 10, cells := 7074, slots := 42444, locals := 209 } [.ref a0, .ref a1, .int u2] (gE1 a1 (some (.inl (arrV (cy 5) 60 (fun k => .long (fs k)))))) none w r.2 (some (.int r.1)) := by
  refine l_begin (by decide +kernel) (Nat.le_of_ble_eq_true rfl) (fun X h hC hEn hL => ?_)
  unfold F_L_isKept at hF
  show gAt X 0 0 6 w h gE0 [(0, .ref a0), (1, .ref a1), (2, .int u2)] [] 0
  refine g_aload_n hC dL_isKept_0 rfl 0 rfl ?_
  refine g_iconst (v := 0) hC dL_isKept_1 (by decide) ?_
  obtain ⟨r1, h2, hF⟩ := fb_open hF
  refine g_callLWk hC hL [.ref a0, .int 0] (c_L_account l D cy a0 0 w r1 h2) (Or.inl rfl) (fun _ _ h => nomatch h) q_597 q_72 q_595 q_596 h9_L_account ⟨Nat.le_of_ble_eq_true rfl, Nat.le_of_ble_eq_true rfl⟩ 1 6 rfl rfl ⟨Nat.le_of_ble_eq_true rfl, Nat.le_of_ble_eq_true rfl⟩ (Nat.le_of_ble_eq_true rfl) rfl dL_isKept_2 (fun z4 _ e3 => ?_)
  show gAt X 1 6 6 w z4 gE0 [(0, .ref a0), (1, .ref a1), (2, .int u2)] [.int r1] 5
  refine g_istore_n (L' := [(3, .int r1), (0, .ref a0), (1, .ref a1), (2, .int u2)]) hC dL_isKept_5 rfl (by decide) rfl ?_
  refine g_aload_n hC dL_isKept_6 rfl 1 rfl ?_
  obtain ⟨g11, hF⟩ := fg_open hF
  obtain ⟨r5, h6, hF⟩ := fb_open hF
  obtain ⟨v9, w10⟩ := r5
  refine g_callVk hC [] (c_X4_snapshot l D cy a0 w (v9, w10) h6) q_1418 q_73 q_1415 q_1416 q_1417 h9_X4_snapshot (T := TX4) (N := 15) (ci := 4) rfl (fSm.k (fSm.rf w) g11) ⟨Nat.le_of_ble_eq_true rfl, Nat.le_of_ble_eq_true rfl⟩ 0 0 rfl rfl ⟨Nat.le_of_ble_eq_true rfl, Nat.le_of_ble_eq_true rfl⟩ (Nat.le_of_ble_eq_true rfl) rfl dL_isKept_7 (fun z8 _ e7 => ?_)
  show gAt X 1 6 6 w10 z8 gE0 [(3, .int r1), (0, .ref a0), (1, .ref a1), (2, .int u2)] [.int v9] 10
  refine g_iload_n hC dL_isKept_10 rfl 0 rfl ?_
  refine g_icmp_ne hC 29 dL_isKept_11 (by decide) (fun c12 => ?_) (fun c12 => ?_)
  · replace hF := fi_neg hF c12
    refine g_iconst (v := 0) hC dL_isKept_29 (by decide) ?_
    obtain rfl := Option.some.inj hF
    refine g_widen (k' := 7074) (s' := 42444) (by omega) (by omega) ?_
    exact g_zret hC hEn (fSm.tr e7 (fSm.rf w)) (nar_z (by decide)) dL_isKept_30
  · replace hF := fi_pos hF c12
    refine g_aload_n hC dL_isKept_14 rfl 1 rfl ?_
    refine g_bipush (v := 13) hC dL_isKept_15 (by decide) ?_
    obtain ⟨r13, h14, hF⟩ := fb_open hF
    refine g_callLWk hC hL [.ref a0, .int 13] (c_L_account l D cy a0 13 w10 r13 h14) (Or.inl rfl) (fun _ _ h => nomatch h) q_597 q_72 q_595 q_596 h9_L_account ⟨Nat.le_of_ble_eq_true rfl, Nat.le_of_ble_eq_true rfl⟩ 1 6 rfl rfl ⟨Nat.le_of_ble_eq_true rfl, Nat.le_of_ble_eq_true rfl⟩ (Nat.le_of_ble_eq_true rfl) rfl dL_isKept_17 (fun z16 _ e15 => ?_)
    show gAt X 2 12 6 w10 z16 gE0 [(3, .int r1), (0, .ref a0), (1, .ref a1), (2, .int u2)] [.int r13] 20
    refine g_bipush (v := 8) hC dL_isKept_20 (by decide) ?_
    refine g_iload_n hC dL_isKept_22 rfl 3 rfl ?_
    obtain ⟨r17, h18, hF⟩ := fb_open hF
    refine g_callSk hC [.int 8, .int u2] (c_J9_min_7cf53 l D cy 8 u2 w10 r17 h18) q_547 q_85 q_1419 q_546 h9_J9_min_7cf53 ⟨Nat.le_of_ble_eq_true rfl, Nat.le_of_ble_eq_true rfl⟩ 0 0 rfl rfl ⟨Nat.le_of_ble_eq_true rfl, Nat.le_of_ble_eq_true rfl⟩ (Nat.le_of_ble_eq_true rfl) rfl dL_isKept_23 (fun z20 _ e19 => ?_)
    show gAt X 2 12 6 w10 z20 gE0 [(3, .int r1), (0, .ref a0), (1, .ref a1), (2, .int u2)] [.int r17, .int r13] 26
    refine g_icmp_eq hC 31 dL_isKept_26 (by decide) (fun c21 => ?_) (fun c21 => ?_)
    · replace hF := fi_pos hF c21
      refine g_bipush (v := 8) hC dL_isKept_31 (by decide) ?_
      refine g_iload_n hC dL_isKept_33 rfl 3 rfl ?_
      obtain ⟨r22, h23, hF⟩ := fb_open hF
      refine g_callSk hC [.int 8, .int u2] (c_J9_min_7cf53 l D cy 8 u2 w10 r22 h23) q_547 q_85 q_1419 q_546 h9_J9_min_7cf53 ⟨Nat.le_of_ble_eq_true rfl, Nat.le_of_ble_eq_true rfl⟩ 0 0 rfl rfl ⟨Nat.le_of_ble_eq_true rfl, Nat.le_of_ble_eq_true rfl⟩ (Nat.le_of_ble_eq_true rfl) rfl dL_isKept_34 (fun z25 _ e24 => ?_)
      show gAt X 2 12 6 w10 z25 gE0 [(3, .int r1), (0, .ref a0), (1, .ref a1), (2, .int u2)] [.int r22] 37
      refine g_istore (L' := [(4, .int r22), (3, .int r1), (0, .ref a0), (1, .ref a1), (2, .int u2)]) hC dL_isKept_37 (by decide) rfl ?_
      refine g_iload_n hC dL_isKept_39 rfl 4 rfl ?_
      refine g_iconst (v := 1) hC dL_isKept_40 (by decide) ?_
      refine g_isub hC dL_isKept_41 ?_
      refine g_istore (L' := [(5, .int (u2 - 1)), (4, .int r22), (3, .int r1), (0, .ref a0), (1, .ref a1), (2, .int u2)]) hC dL_isKept_42 (by decide) rfl ?_
      obtain ⟨x32, h33, hF⟩ := fb_open hF
      have K34 : ∀ z55, x32 = .inl z55 → ∀ z38, fSm z55 w → gAt X 6365 38190 6 z55 z38 gE0 [(0, .ref a0), (1, .ref a1), (2, .int u2), (3, .int r1)] [] 81 := by
        intro z55 hz9 z38 p30
        subst hz9
        refine g_aload_n hC dL_isKept_81 rfl 0 rfl ?_
        obtain ⟨r56, h57, hF⟩ := fb_open hF
        obtain ⟨v60, w61⟩ := r56
        refine g_callLWk hC hL [.ref a0] (c_L_undo l D cy a0 z55 (v60, w61) h57) (Or.inl rfl) (fun _ _ h => nomatch h) q_1422 q_72 q_1420 q_1421 h9_L_undo ⟨Nat.le_of_ble_eq_true rfl, Nat.le_of_ble_eq_true rfl⟩ 1 6 rfl rfl ⟨Nat.le_of_ble_eq_true rfl, Nat.le_of_ble_eq_true rfl⟩ (Nat.le_of_ble_eq_true rfl) rfl dL_isKept_82 (fun z59 _ e58 => ?_)
        show gAt X 6366 38196 6 w61 z59 gE0 [(0, .ref a0), (1, .ref a1), (2, .int u2), (3, .int r1)] [.int v60] 85
        refine g_bipush (v := (-79)) hC dL_isKept_85 (by decide) ?_
        refine g_icmp_ne hC 122 dL_isKept_87 (by decide) (fun c62 => ?_) (fun c62 => ?_)
        · replace hF := fi_neg hF c62
          refine g_iconst (v := 0) hC dL_isKept_122 (by decide) ?_
          obtain rfl := Option.some.inj hF
          refine g_widen (k' := 7074) (s' := 42444) (by omega) (by omega) ?_
          exact g_zret hC hEn (fSm.tr e58 p30) (nar_z (by decide)) dL_isKept_123
        · replace hF := fi_pos hF c62
          refine g_aload_n hC dL_isKept_90 rfl 0 rfl ?_
          obtain ⟨r63, h64, hF⟩ := fb_open hF
          obtain ⟨v67, w68⟩ := r63
          refine g_callLWk hC hL [.ref a0] (c_L_restore l D cy a0 w61 (v67, w68) h64) (Or.inl rfl) (fun _ _ h => nomatch h) q_1430 q_72 q_1428 q_1429 h9_L_restore ⟨Nat.le_of_ble_eq_true rfl, Nat.le_of_ble_eq_true rfl⟩ 1 6 rfl rfl ⟨Nat.le_of_ble_eq_true rfl, Nat.le_of_ble_eq_true rfl⟩ (Nat.le_of_ble_eq_true rfl) rfl dL_isKept_91 (fun z66 _ e65 => ?_)
          show gAt X 6367 38202 6 w68 z66 gE0 [(0, .ref a0), (1, .ref a1), (2, .int u2), (3, .int r1)] [.int v67] 94
          refine g_iload_n hC dL_isKept_94 rfl 3 rfl ?_
          refine g_icmp_ne hC 122 dL_isKept_95 (by decide) (fun c69 => ?_) (fun c69 => ?_)
          · replace hF := fi_neg hF c69
            refine g_iconst (v := 0) hC dL_isKept_122 (by decide) ?_
            obtain rfl := Option.some.inj hF
            refine g_widen (k' := 7074) (s' := 42444) (by omega) (by omega) ?_
            exact g_zret hC hEn (fSm.tr e65 (fSm.tr e58 p30)) (nar_z (by decide)) dL_isKept_123
          · replace hF := fi_pos hF c69
            refine g_aload_n hC dL_isKept_98 rfl 0 rfl ?_
            obtain ⟨r70, h71, hF⟩ := fb_open hF
            refine g_callLk hC hL [.ref a0] (c_L_sum l D cy a0 w68 r70 h71) (Or.inl rfl) (fun _ _ h => nomatch h) q_1187 q_72 q_1185 q_1186 h9_L_sum ⟨Nat.le_of_ble_eq_true rfl, Nat.le_of_ble_eq_true rfl⟩ 706 4236 rfl rfl ⟨Nat.le_of_ble_eq_true rfl, Nat.le_of_ble_eq_true rfl⟩ (Nat.le_of_ble_eq_true rfl) rfl dL_isKept_99 (fun z73 _ e72 => ?_)
            show gAt X 7073 42438 6 w68 z73 gE0 [(0, .ref a0), (1, .ref a1), (2, .int u2), (3, .int r1)] [.long r70] 102
            refine g_aload_n hC dL_isKept_102 rfl 1 rfl ?_
            refine g_iload_n hC dL_isKept_103 rfl 2 rfl ?_
            obtain ⟨g74, hF⟩ := fg_open hF
            refine g_laldR hC hL (f := fs) (gE1_b _ _) g74 dL_isKept_104 ?_
            refine g_lcmp hC dL_isKept_105 ?_
            refine g_if_ne hC 122 dL_isKept_106 (by decide) (fun c75 => ?_) (fun c75 => ?_)
            · replace hF := fi_neg hF c75
              refine g_iconst (v := 0) hC dL_isKept_122 (by decide) ?_
              obtain rfl := Option.some.inj hF
              refine g_widen (k' := 7074) (s' := 42444) (by omega) (by omega) ?_
              exact g_zret hC hEn (fSm.tr e65 (fSm.tr e58 p30)) (nar_z (by decide)) dL_isKept_123
            · replace hF := fi_pos hF c75
              refine g_aload_n hC dL_isKept_109 rfl 0 rfl ?_
              obtain ⟨r76, h77, hF⟩ := fb_open hF
              obtain ⟨v80, w81⟩ := r76
              refine g_callLWk hC hL [.ref a0] (c_L_undo l D cy a0 w68 (v80, w81) h77) (Or.inl rfl) (fun _ _ h => nomatch h) q_1422 q_72 q_1420 q_1421 h9_L_undo ⟨Nat.le_of_ble_eq_true rfl, Nat.le_of_ble_eq_true rfl⟩ 1 6 rfl rfl ⟨Nat.le_of_ble_eq_true rfl, Nat.le_of_ble_eq_true rfl⟩ (Nat.le_of_ble_eq_true rfl) rfl dL_isKept_110 (fun z79 _ e78 => ?_)
              show gAt X 7074 42444 6 w81 z79 gE0 [(0, .ref a0), (1, .ref a1), (2, .int u2), (3, .int r1)] [.int v80] 113
              refine g_bipush (v := (-79)) hC dL_isKept_113 (by decide) ?_
              refine g_icmp_ne hC 122 dL_isKept_115 (by decide) (fun c82 => ?_) (fun c82 => ?_)
              · replace hF := fi_neg hF c82
                refine g_iconst (v := 0) hC dL_isKept_122 (by decide) ?_
                obtain rfl := Option.some.inj hF
                refine g_widen (k' := 7074) (s' := 42444) (by omega) (by omega) ?_
                exact g_zret hC hEn (fSm.tr e78 (fSm.tr e65 (fSm.tr e58 p30))) (nar_z (by decide)) dL_isKept_123
              · replace hF := fi_pos hF c82
                refine g_iconst (v := 1) hC dL_isKept_118 (by decide) ?_
                refine g_goto hC 123 dL_isKept_119 (by decide) ?_
                obtain rfl := Option.some.inj hF
                refine g_widen (k' := 7074) (s' := 42444) (by omega) (by omega) ?_
                exact g_zret hC hEn (fSm.tr e78 (fSm.tr e65 (fSm.tr e58 p30))) (nar_z (by decide)) dL_isKept_123
      refine g_sub (L' := [(0, .ref a0), (1, .ref a1), (2, .int u2), (3, .int r1), (4, .int r22), (5, .int (u2 - 1))]) [3, 4, 5, 2, 1, 0] rfl ?_
      refine fLoopB_use h33 (fun (n35 : Nat) (s26 : Int32 × Int32 × FW) => ∀ b39 d39 : Nat, b39 + n35 * 707 ≤ 6365 ∧ d39 + n35 * 4242 ≤ 38190 → ∀ z37 : Nat, fSm s26.2.2 w → gAt X b39 d39 6 s26.2.2 z37 gE0 [(0, .ref a0), (1, .ref a1), (2, .int u2), (3, .int r1), (4, .int s26.1), (5, .int s26.2.1)] [] 44) (fun n35 s26 y31 h27 go28 ou29 => ?_) 2 12 ⟨Nat.le_of_ble_eq_true rfl, Nat.le_of_ble_eq_true rfl⟩ _ (fSm.tr e7 (fSm.rf w))
      intro b39 d39 k40 z37 p30
      obtain ⟨k40, k40'⟩ := k40
      refine g_iload hC dL_isKept_44 4 rfl ?_
      refine g_if_le hC 81 dL_isKept_46 (by decide) (fun c41 => ?_) (fun c41 => ?_)
      · replace h27 := fi_pos h27 c41
        obtain rfl := Option.some.inj h27
        have eo := ou29 _ rfl
        refine g_sub (L' := [(0, .ref a0), (1, .ref a1), (2, .int u2), (3, .int r1)]) [0, 1, 2, 3] rfl ?_
        refine g_widen (k' := 6365) (s' := 38190) (by omega) (by omega) ?_
        exact K34 _ eo.symm _ p30
      · replace h27 := fi_neg h27 c41
        refine g_iinc (L' := [(4, .int (s26.1 + (-1))), (0, .ref a0), (1, .ref a1), (2, .int u2), (3, .int r1), (5, .int s26.2.1)]) hC dL_isKept_49 4 rfl rfl (by decide) rfl ?_
        refine g_aload_n hC dL_isKept_52 rfl 1 rfl ?_
        obtain ⟨r42, h43, h27⟩ := fb_open h27
        obtain ⟨v46, w47⟩ := r42
        refine g_callLWk hC hL [.ref a0] (c_L_undo l D cy a0 s26.2.2 (v46, w47) h43) (Or.inl rfl) (fun _ _ h => nomatch h) q_1422 q_72 q_1420 q_1421 h9_L_undo ⟨Nat.le_of_ble_eq_true rfl, Nat.le_of_ble_eq_true rfl⟩ 1 6 rfl rfl ⟨show b39 + 1 ≤ 7074 from by omega, show d39 + 6 ≤ 42444 from by omega⟩ (Nat.le_of_ble_eq_true rfl) rfl dL_isKept_53 (fun z45 _ e44 => ?_)
        refine g_cs (b39 + 1) (d39 + 6) (show (b39 + 1) = b39 + 1 from by omega) (show (d39 + 6) = d39 + 6 from by omega) ?_
        show gAt X (b39 + 1) (d39 + 6) 6 w47 z45 gE0 [(4, .int (s26.1 + (-1))), (0, .ref a0), (1, .ref a1), (2, .int u2), (3, .int r1), (5, .int s26.2.1)] [.int v46] 56
        refine g_iload hC dL_isKept_56 0 rfl ?_
        refine g_icmp_ne hC 73 dL_isKept_58 (by decide) (fun c48 => ?_) (fun c48 => ?_)
        · replace h27 := fi_neg h27 c48
          refine g_iconst (v := 0) hC dL_isKept_73 (by decide) ?_
          obtain rfl := Option.some.inj h27
          obtain rfl := ou29 _ rfl
          obtain rfl := Option.some.inj hF
          refine g_widen (k' := 7074) (s' := 42444) (by omega) (by omega) ?_
          exact g_zret hC hEn (fSm.tr e44 p30) (nar_z (by decide)) dL_isKept_74
        · replace h27 := fi_pos h27 c48
          refine g_aload_n hC dL_isKept_61 rfl 1 rfl ?_
          obtain ⟨r49, h50, h27⟩ := fb_open h27
          refine g_callLk hC hL [.ref a0] (c_L_sum l D cy a0 w47 r49 h50) (Or.inl rfl) (fun _ _ h => nomatch h) q_1187 q_72 q_1185 q_1186 h9_L_sum ⟨Nat.le_of_ble_eq_true rfl, Nat.le_of_ble_eq_true rfl⟩ 706 4236 rfl rfl ⟨show (b39 + 1) + 706 ≤ 7074 from by omega, show (d39 + 6) + 4236 ≤ 42444 from by omega⟩ (Nat.le_of_ble_eq_true rfl) rfl dL_isKept_62 (fun z52 _ e51 => ?_)
          refine g_cs (b39 + 707) (d39 + 4242) (show (b39 + 707) = (b39 + 1) + 706 from by omega) (show (d39 + 4242) = (d39 + 6) + 4236 from by omega) ?_
          show gAt X (b39 + 707) (d39 + 4242) 6 w47 z52 gE0 [(4, .int (s26.1 + (-1))), (0, .ref a0), (1, .ref a1), (2, .int u2), (3, .int r1), (5, .int s26.2.1)] [.long r49] 65
          refine g_aload_n hC dL_isKept_65 rfl 2 rfl ?_
          refine g_iload hC dL_isKept_66 5 rfl ?_
          obtain ⟨g53, h27⟩ := fg_open h27
          refine g_laldR hC hL (f := fs) (gE1_b _ _) g53 dL_isKept_68 ?_
          refine g_lcmp hC dL_isKept_69 ?_
          refine g_if_eq hC 75 dL_isKept_70 (by decide) (fun c54 => ?_) (fun c54 => ?_)
          · replace h27 := fi_pos h27 c54
            refine g_iinc (L' := [(5, .int (s26.2.1 + (-1))), (4, .int (s26.1 + (-1))), (0, .ref a0), (1, .ref a1), (2, .int u2), (3, .int r1)]) hC dL_isKept_75 5 rfl rfl (by decide) rfl ?_
            refine g_goto hC 44 dL_isKept_78 (by decide) ?_
            obtain rfl := Option.some.inj h27
            refine g_sub (L' := [(0, .ref a0), (1, .ref a1), (2, .int u2), (3, .int r1), (4, .int (s26.1 + (-1))), (5, .int (s26.2.1 + (-1)))]) [2, 3, 4, 5, 1, 0] rfl ?_
            exact go28 ((s26.1 + (-1)), (s26.2.1 + (-1)), w47) rfl _ _ ⟨by omega, by omega⟩ _ (fSm.tr e44 p30)
          · replace h27 := fi_neg h27 c54
            refine g_iconst (v := 0) hC dL_isKept_73 (by decide) ?_
            obtain rfl := Option.some.inj h27
            obtain rfl := ou29 _ rfl
            obtain rfl := Option.some.inj hF
            refine g_widen (k' := 7074) (s' := 42444) (by omega) (by omega) ?_
            exact g_zret hC hEn (fSm.tr e44 p30) (nar_z (by decide)) dL_isKept_74
    · replace hF := fi_neg hF c21
      refine g_iconst (v := 0) hC dL_isKept_29 (by decide) ?_
      obtain rfl := Option.some.inj hF
      refine g_widen (k' := 7074) (s' := 42444) (by omega) (by omega) ?_
      exact g_zret hC hEn (fSm.tr e7 (fSm.rf w)) (nar_z (by decide)) dL_isKept_30
