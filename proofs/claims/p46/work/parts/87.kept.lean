theorem dL_isKept_0 : decode cL_isKept 0 = .ok (.aload_n 0, 1) := by decide +kernel
theorem dL_isKept_1 : decode cL_isKept 1 = .ok (.iconst 0, 1) := by decide +kernel
theorem dL_isKept_2 : decode cL_isKept 2 = .ok (.invokestatic 189, 3) := by decide +kernel
theorem dL_isKept_5 : decode cL_isKept 5 = .ok (.istore_n 3, 1) := by decide +kernel
theorem dL_isKept_6 : decode cL_isKept 6 = .ok (.aload_n 0, 1) := by decide +kernel
theorem dL_isKept_7 : decode cL_isKept 7 = .ok (.invokevirtual 353, 3) := by decide +kernel
theorem dL_isKept_10 : decode cL_isKept 10 = .ok (.iload_n 3, 1) := by decide +kernel
theorem dL_isKept_11 : decode cL_isKept 11 = .ok (.if_icmp .ne 18, 3) := by decide +kernel
theorem dL_isKept_14 : decode cL_isKept 14 = .ok (.aload_n 0, 1) := by decide +kernel
theorem dL_isKept_15 : decode cL_isKept 15 = .ok (.bipush 13, 2) := by decide +kernel
theorem dL_isKept_17 : decode cL_isKept 17 = .ok (.invokestatic 189, 3) := by decide +kernel
theorem dL_isKept_20 : decode cL_isKept 20 = .ok (.bipush 8, 2) := by decide +kernel
theorem dL_isKept_22 : decode cL_isKept 22 = .ok (.iload_n 2, 1) := by decide +kernel
theorem dL_isKept_23 : decode cL_isKept 23 = .ok (.invokestatic 356, 3) := by decide +kernel
theorem dL_isKept_26 : decode cL_isKept 26 = .ok (.if_icmp .eq 5, 3) := by decide +kernel
theorem dL_isKept_29 : decode cL_isKept 29 = .ok (.iconst 0, 1) := by decide +kernel
theorem dL_isKept_30 : decode cL_isKept 30 = .ok (.ireturn, 1) := by decide +kernel
theorem dL_isKept_31 : decode cL_isKept 31 = .ok (.bipush 8, 2) := by decide +kernel
theorem dL_isKept_33 : decode cL_isKept 33 = .ok (.iload_n 2, 1) := by decide +kernel
theorem dL_isKept_34 : decode cL_isKept 34 = .ok (.invokestatic 356, 3) := by decide +kernel
theorem dL_isKept_37 : decode cL_isKept 37 = .ok (.istore 4, 2) := by decide +kernel
theorem dL_isKept_39 : decode cL_isKept 39 = .ok (.iload_n 2, 1) := by decide +kernel
theorem dL_isKept_40 : decode cL_isKept 40 = .ok (.iconst 1, 1) := by decide +kernel
theorem dL_isKept_41 : decode cL_isKept 41 = .ok (.isub, 1) := by decide +kernel
theorem dL_isKept_42 : decode cL_isKept 42 = .ok (.istore 5, 2) := by decide +kernel
theorem dL_isKept_44 : decode cL_isKept 44 = .ok (.iload 4, 2) := by decide +kernel
theorem dL_isKept_46 : decode cL_isKept 46 = .ok (.ifCond .le 35, 3) := by decide +kernel
theorem dL_isKept_49 : decode cL_isKept 49 = .ok (.iinc 4 (-1), 3) := by decide +kernel
theorem dL_isKept_52 : decode cL_isKept 52 = .ok (.aload_n 0, 1) := by decide +kernel
theorem dL_isKept_53 : decode cL_isKept 53 = .ok (.invokestatic 359, 3) := by decide +kernel
theorem dL_isKept_56 : decode cL_isKept 56 = .ok (.iload 4, 2) := by decide +kernel
theorem dL_isKept_58 : decode cL_isKept 58 = .ok (.if_icmp .ne 15, 3) := by decide +kernel
theorem dL_isKept_61 : decode cL_isKept 61 = .ok (.aload_n 0, 1) := by decide +kernel
theorem dL_isKept_62 : decode cL_isKept 62 = .ok (.invokestatic 185, 3) := by decide +kernel
theorem dL_isKept_65 : decode cL_isKept 65 = .ok (.aload_n 1, 1) := by decide +kernel
theorem dL_isKept_66 : decode cL_isKept 66 = .ok (.iload 5, 2) := by decide +kernel
theorem dL_isKept_68 : decode cL_isKept 68 = .ok (.laload, 1) := by decide +kernel
theorem dL_isKept_69 : decode cL_isKept 69 = .ok (.lcmp, 1) := by decide +kernel
theorem dL_isKept_70 : decode cL_isKept 70 = .ok (.ifCond .eq 5, 3) := by decide +kernel
theorem dL_isKept_73 : decode cL_isKept 73 = .ok (.iconst 0, 1) := by decide +kernel
theorem dL_isKept_74 : decode cL_isKept 74 = .ok (.ireturn, 1) := by decide +kernel
theorem dL_isKept_75 : decode cL_isKept 75 = .ok (.iinc 5 (-1), 3) := by decide +kernel
theorem dL_isKept_78 : decode cL_isKept 78 = .ok (.goto (-34), 3) := by decide +kernel
theorem dL_isKept_81 : decode cL_isKept 81 = .ok (.aload_n 0, 1) := by decide +kernel
theorem dL_isKept_82 : decode cL_isKept 82 = .ok (.invokestatic 359, 3) := by decide +kernel
theorem dL_isKept_85 : decode cL_isKept 85 = .ok (.bipush (-79), 2) := by decide +kernel
theorem dL_isKept_87 : decode cL_isKept 87 = .ok (.if_icmp .ne 35, 3) := by decide +kernel
theorem dL_isKept_90 : decode cL_isKept 90 = .ok (.aload_n 0, 1) := by decide +kernel
theorem dL_isKept_91 : decode cL_isKept 91 = .ok (.invokestatic 361, 3) := by decide +kernel
theorem dL_isKept_94 : decode cL_isKept 94 = .ok (.iload_n 3, 1) := by decide +kernel
theorem dL_isKept_95 : decode cL_isKept 95 = .ok (.if_icmp .ne 27, 3) := by decide +kernel
theorem dL_isKept_98 : decode cL_isKept 98 = .ok (.aload_n 0, 1) := by decide +kernel
theorem dL_isKept_99 : decode cL_isKept 99 = .ok (.invokestatic 185, 3) := by decide +kernel
theorem dL_isKept_102 : decode cL_isKept 102 = .ok (.aload_n 1, 1) := by decide +kernel
theorem dL_isKept_103 : decode cL_isKept 103 = .ok (.iload_n 2, 1) := by decide +kernel
theorem dL_isKept_104 : decode cL_isKept 104 = .ok (.laload, 1) := by decide +kernel
theorem dL_isKept_105 : decode cL_isKept 105 = .ok (.lcmp, 1) := by decide +kernel
theorem dL_isKept_106 : decode cL_isKept 106 = .ok (.ifCond .ne 16, 3) := by decide +kernel
theorem dL_isKept_109 : decode cL_isKept 109 = .ok (.aload_n 0, 1) := by decide +kernel
theorem dL_isKept_110 : decode cL_isKept 110 = .ok (.invokestatic 359, 3) := by decide +kernel
theorem dL_isKept_113 : decode cL_isKept 113 = .ok (.bipush (-79), 2) := by decide +kernel
theorem dL_isKept_115 : decode cL_isKept 115 = .ok (.if_icmp .ne 7, 3) := by decide +kernel
theorem dL_isKept_118 : decode cL_isKept 118 = .ok (.iconst 1, 1) := by decide +kernel
theorem dL_isKept_119 : decode cL_isKept 119 = .ok (.goto 4, 3) := by decide +kernel
theorem dL_isKept_122 : decode cL_isKept 122 = .ok (.iconst 0, 1) := by decide +kernel
theorem dL_isKept_123 : decode cL_isKept 123 = .ok (.ireturn, 1) := by decide +kernel
theorem h9_L_isKept : yL_isKept.cls ≠ "java/lang/invoke/MethodHandle" ∧ yL_isKept.cls ≠ "java/lang/invoke/VarHandle" ∧ (parseMethodDescriptor yL_isKept.desc).map (fun d => d.parameters.length) = some 3 := by decide +kernel
noncomputable def F_L_isKept (a0 : Nat) (a1 : Nat) (u2 : Int32) (fs : Nat → Int64) (w : FW) : Option (Int32 × FW) :=
  (F_L_account a0 0 w).bind (fun r1 => fg (w.1 a0 = 5) inferInstance ((F_X4_snapshot a0 w).bind (fun r5 => (if r5.1 = r1 then (F_L_account a0 13 r5.2).bind (fun r11 => (F_J9_min_7cf53 8 u2 r5.2).bind (fun r15 => (if r11 = r15 then (F_J9_min_7cf53 8 u2 r5.2).bind (fun r20 => (fLoopB (σ := Int32 × Int32 × FW) (ρ := (FW) ⊕ (Int32 × FW)) (fun s24 => (if s24.1 ≤ 0 then some (.inr (.inl s24.2.2)) else (F_L_undo a0 s24.2.2).bind (fun r38 => (if r38.1 = (s24.1 + (-1)) then (F_L_sum a0 r38.2).bind (fun r43 => fg (¬ (s24.2.1 < 0 ∨ 60 ≤ Int32.toNatClampNeg s24.2.1)) inferInstance ((if (lg_cmp r43 (fs (Int32.toNatClampNeg s24.2.1))) = 0 then some (.inl ((s24.1 + (-1)), (s24.2.1 + (-1)), r38.2)) else some (.inr (.inr (0, r38.2)))))) else some (.inr (.inr (0, r38.2))))))) 9 (r20, (u2 - 1), r5.2)).bind (fun x30 => fse x30 (fun z49 => (F_L_undo a0 z49).bind (fun r50 => (if r50.1 = (-79) then (F_L_restore a0 r50.2).bind (fun r55 => (if r55.1 = r1 then (F_L_sum a0 r55.2).bind (fun r60 => fg (¬ (u2 < 0 ∨ 60 ≤ Int32.toNatClampNeg u2)) inferInstance ((if (lg_cmp r60 (fs (Int32.toNatClampNeg u2))) = 0 then (F_L_undo a0 r55.2).bind (fun r66 => (if r66.1 = (-79) then some (1, r66.2) else some (0, r66.2))) else some (0, r55.2)))) else some (0, r55.2))) else some (0, r50.2)))) (fun q9 => some q9))) else some (0, r5.2)))) else some (0, r5.2)))))
set_option maxHeartbeats 4000000 in
set_option maxRecDepth 100000 in
theorem c_L_isKept (l : Launch) (D : va_G) (cy : Nat → ClassId) (a0 : Nat) (a1 : Nat) (u2 : Int32) (fs : Nat → Int64) (w : FW) (r : Int32 × FW) (hF : F_L_isKept a0 a1 u2 fs w = some r) : lSpec l D cy yL_isKept (.code yL_isKept cL_isKept 6 (some .boolean)) { frames := 10, cells := 7884, slots := 47304, locals := 209 } [.ref a0, .ref a1, .int u2] (gE1 a1 (some (.inl (arrV (cy 5) 60 (fun k => .long (fs k)))))) none w r.2 (some (.int r.1)) := by
  refine l_begin (by decide +kernel) (Nat.le_of_ble_eq_true rfl) (fun X h hC hEn hL => ?_)
  unfold F_L_isKept at hF
  show gAt X 0 0 6 w h gE0 [(0, .ref a0), (1, .ref a1), (2, .int u2)] [] 0
  refine g_aload_n hC dL_isKept_0 rfl 0 rfl ?_
  refine g_iconst (v := 0) hC dL_isKept_1 (by decide) ?_
  obtain ⟨r1, h2, hF⟩ := fb_open hF
  refine g_callLW hC hL [.ref a0, .int 0] (c_L_account l D cy a0 0 w r1 h2) (Or.inl rfl) (fun _ _ h => nomatch h) q_597 q_72 q_595 q_596 h9_L_account ⟨Nat.le_of_ble_eq_true rfl, Nat.le_of_ble_eq_true rfl⟩ ⟨Nat.le_of_ble_eq_true rfl, Nat.le_of_ble_eq_true rfl⟩ (Nat.le_of_ble_eq_true rfl) rfl dL_isKept_2 (fun z4 _ e3 => ?_)
  show gAt X 1 6 6 w z4 gE0 [(0, .ref a0), (1, .ref a1), (2, .int u2)] [.int r1] 5
  refine g_istore_n (L' := [(3, .int r1), (0, .ref a0), (1, .ref a1), (2, .int u2)]) hC dL_isKept_5 rfl (by decide) rfl ?_
  refine g_aload_n hC dL_isKept_6 rfl 1 rfl ?_
  obtain ⟨g9, hF⟩ := fg_open hF
  obtain ⟨r5, h6, hF⟩ := fb_open hF
  refine g_callV hC [] (c_X4_snapshot l D cy a0 w r5 h6) q_1418 q_73 q_1415 q_1416 q_1417 h9_X4_snapshot (T := TX4) (N := 15) (ci := 4) rfl (fSm.k (fSm.rf w) g9) ⟨Nat.le_of_ble_eq_true rfl, Nat.le_of_ble_eq_true rfl⟩ ⟨Nat.le_of_ble_eq_true rfl, Nat.le_of_ble_eq_true rfl⟩ (Nat.le_of_ble_eq_true rfl) rfl dL_isKept_7 (fun z8 _ e7 => ?_)
  show gAt X 1 6 6 r5.2 z8 gE0 [(3, .int r1), (0, .ref a0), (1, .ref a1), (2, .int u2)] [.int r5.1] 10
  refine g_iload_n hC dL_isKept_10 rfl 0 rfl ?_
  refine g_icmp_ne hC 29 dL_isKept_11 (by decide) (fun c10 => ?_) (fun c10 => ?_)
  · replace hF := fi_neg hF c10
    refine g_iconst (v := 0) hC dL_isKept_29 (by decide) ?_
    obtain rfl := Option.some.inj hF
    refine g_widen (k' := 7884) (s' := 47304) (by omega) (by omega) ?_
    exact g_zret hC hEn (fSm.tr e7 (fSm.rf w)) (nar_z (by decide)) dL_isKept_30
  · replace hF := fi_pos hF c10
    refine g_aload_n hC dL_isKept_14 rfl 1 rfl ?_
    refine g_bipush (v := 13) hC dL_isKept_15 (by decide) ?_
    obtain ⟨r11, h12, hF⟩ := fb_open hF
    refine g_callLW hC hL [.ref a0, .int 13] (c_L_account l D cy a0 13 r5.2 r11 h12) (Or.inl rfl) (fun _ _ h => nomatch h) q_597 q_72 q_595 q_596 h9_L_account ⟨Nat.le_of_ble_eq_true rfl, Nat.le_of_ble_eq_true rfl⟩ ⟨Nat.le_of_ble_eq_true rfl, Nat.le_of_ble_eq_true rfl⟩ (Nat.le_of_ble_eq_true rfl) rfl dL_isKept_17 (fun z14 _ e13 => ?_)
    show gAt X 2 12 6 r5.2 z14 gE0 [(3, .int r1), (0, .ref a0), (1, .ref a1), (2, .int u2)] [.int r11] 20
    refine g_bipush (v := 8) hC dL_isKept_20 (by decide) ?_
    refine g_iload_n hC dL_isKept_22 rfl 3 rfl ?_
    obtain ⟨r15, h16, hF⟩ := fb_open hF
    refine g_callS hC [.int 8, .int u2] (c_J9_min_7cf53 l D cy 8 u2 r5.2 r15 h16) q_547 q_85 q_1419 q_546 h9_J9_min_7cf53 ⟨Nat.le_of_ble_eq_true rfl, Nat.le_of_ble_eq_true rfl⟩ ⟨Nat.le_of_ble_eq_true rfl, Nat.le_of_ble_eq_true rfl⟩ (Nat.le_of_ble_eq_true rfl) rfl dL_isKept_23 (fun z18 _ e17 => ?_)
    show gAt X 2 12 6 r5.2 z18 gE0 [(3, .int r1), (0, .ref a0), (1, .ref a1), (2, .int u2)] [.int r15, .int r11] 26
    refine g_icmp_eq hC 31 dL_isKept_26 (by decide) (fun c19 => ?_) (fun c19 => ?_)
    · replace hF := fi_pos hF c19
      refine g_bipush (v := 8) hC dL_isKept_31 (by decide) ?_
      refine g_iload_n hC dL_isKept_33 rfl 3 rfl ?_
      obtain ⟨r20, h21, hF⟩ := fb_open hF
      refine g_callS hC [.int 8, .int u2] (c_J9_min_7cf53 l D cy 8 u2 r5.2 r20 h21) q_547 q_85 q_1419 q_546 h9_J9_min_7cf53 ⟨Nat.le_of_ble_eq_true rfl, Nat.le_of_ble_eq_true rfl⟩ ⟨Nat.le_of_ble_eq_true rfl, Nat.le_of_ble_eq_true rfl⟩ (Nat.le_of_ble_eq_true rfl) rfl dL_isKept_34 (fun z23 _ e22 => ?_)
      show gAt X 2 12 6 r5.2 z23 gE0 [(3, .int r1), (0, .ref a0), (1, .ref a1), (2, .int u2)] [.int r20] 37
      refine g_istore (L' := [(4, .int r20), (3, .int r1), (0, .ref a0), (1, .ref a1), (2, .int u2)]) hC dL_isKept_37 (by decide) rfl ?_
      refine g_iload_n hC dL_isKept_39 rfl 4 rfl ?_
      refine g_iconst (v := 1) hC dL_isKept_40 (by decide) ?_
      refine g_isub hC dL_isKept_41 ?_
      refine g_istore (L' := [(5, .int (u2 - 1)), (4, .int r20), (3, .int r1), (0, .ref a0), (1, .ref a1), (2, .int u2)]) hC dL_isKept_42 (by decide) rfl ?_
      obtain ⟨x30, h31, hF⟩ := fb_open hF
      have K32 : ∀ z49, x30 = .inl z49 → ∀ z36, fSm z49 w → gAt X 7094 42564 6 z49 z36 gE0 [(0, .ref a0), (1, .ref a1), (2, .int u2), (3, .int r1)] [] 81 := by
        intro z49 hz9 z36 p28
        subst hz9
        refine g_aload_n hC dL_isKept_81 rfl 0 rfl ?_
        obtain ⟨r50, h51, hF⟩ := fb_open hF
        refine g_callLW hC hL [.ref a0] (c_L_undo l D cy a0 z49 r50 h51) (Or.inl rfl) (fun _ _ h => nomatch h) q_1422 q_72 q_1420 q_1421 h9_L_undo ⟨Nat.le_of_ble_eq_true rfl, Nat.le_of_ble_eq_true rfl⟩ ⟨Nat.le_of_ble_eq_true rfl, Nat.le_of_ble_eq_true rfl⟩ (Nat.le_of_ble_eq_true rfl) rfl dL_isKept_82 (fun z53 _ e52 => ?_)
        show gAt X 7095 42570 6 r50.2 z53 gE0 [(0, .ref a0), (1, .ref a1), (2, .int u2), (3, .int r1)] [.int r50.1] 85
        refine g_bipush (v := (-79)) hC dL_isKept_85 (by decide) ?_
        refine g_icmp_ne hC 122 dL_isKept_87 (by decide) (fun c54 => ?_) (fun c54 => ?_)
        · replace hF := fi_neg hF c54
          refine g_iconst (v := 0) hC dL_isKept_122 (by decide) ?_
          obtain rfl := Option.some.inj hF
          refine g_widen (k' := 7884) (s' := 47304) (by omega) (by omega) ?_
          exact g_zret hC hEn (fSm.tr e52 p28) (nar_z (by decide)) dL_isKept_123
        · replace hF := fi_pos hF c54
          refine g_aload_n hC dL_isKept_90 rfl 0 rfl ?_
          obtain ⟨r55, h56, hF⟩ := fb_open hF
          refine g_callLW hC hL [.ref a0] (c_L_restore l D cy a0 r50.2 r55 h56) (Or.inl rfl) (fun _ _ h => nomatch h) q_1430 q_72 q_1428 q_1429 h9_L_restore ⟨Nat.le_of_ble_eq_true rfl, Nat.le_of_ble_eq_true rfl⟩ ⟨Nat.le_of_ble_eq_true rfl, Nat.le_of_ble_eq_true rfl⟩ (Nat.le_of_ble_eq_true rfl) rfl dL_isKept_91 (fun z58 _ e57 => ?_)
          show gAt X 7096 42576 6 r55.2 z58 gE0 [(0, .ref a0), (1, .ref a1), (2, .int u2), (3, .int r1)] [.int r55.1] 94
          refine g_iload_n hC dL_isKept_94 rfl 3 rfl ?_
          refine g_icmp_ne hC 122 dL_isKept_95 (by decide) (fun c59 => ?_) (fun c59 => ?_)
          · replace hF := fi_neg hF c59
            refine g_iconst (v := 0) hC dL_isKept_122 (by decide) ?_
            obtain rfl := Option.some.inj hF
            refine g_widen (k' := 7884) (s' := 47304) (by omega) (by omega) ?_
            exact g_zret hC hEn (fSm.tr e57 (fSm.tr e52 p28)) (nar_z (by decide)) dL_isKept_123
          · replace hF := fi_pos hF c59
            refine g_aload_n hC dL_isKept_98 rfl 0 rfl ?_
            obtain ⟨r60, h61, hF⟩ := fb_open hF
            refine g_callL hC hL [.ref a0] (c_L_sum l D cy a0 r55.2 r60 h61) (Or.inl rfl) (fun _ _ h => nomatch h) q_1187 q_72 q_1185 q_1186 h9_L_sum ⟨Nat.le_of_ble_eq_true rfl, Nat.le_of_ble_eq_true rfl⟩ ⟨Nat.le_of_ble_eq_true rfl, Nat.le_of_ble_eq_true rfl⟩ (Nat.le_of_ble_eq_true rfl) rfl dL_isKept_99 (fun z63 _ e62 => ?_)
            show gAt X 7883 47298 6 r55.2 z63 gE0 [(0, .ref a0), (1, .ref a1), (2, .int u2), (3, .int r1)] [.long r60] 102
            refine g_aload_n hC dL_isKept_102 rfl 1 rfl ?_
            refine g_iload_n hC dL_isKept_103 rfl 2 rfl ?_
            obtain ⟨g64, hF⟩ := fg_open hF
            refine g_laldR hC hL (f := fs) (if_pos rfl) g64 dL_isKept_104 ?_
            refine g_lcmp hC dL_isKept_105 ?_
            refine g_if_ne hC 122 dL_isKept_106 (by decide) (fun c65 => ?_) (fun c65 => ?_)
            · replace hF := fi_neg hF c65
              refine g_iconst (v := 0) hC dL_isKept_122 (by decide) ?_
              obtain rfl := Option.some.inj hF
              refine g_widen (k' := 7884) (s' := 47304) (by omega) (by omega) ?_
              exact g_zret hC hEn (fSm.tr e57 (fSm.tr e52 p28)) (nar_z (by decide)) dL_isKept_123
            · replace hF := fi_pos hF c65
              refine g_aload_n hC dL_isKept_109 rfl 0 rfl ?_
              obtain ⟨r66, h67, hF⟩ := fb_open hF
              refine g_callLW hC hL [.ref a0] (c_L_undo l D cy a0 r55.2 r66 h67) (Or.inl rfl) (fun _ _ h => nomatch h) q_1422 q_72 q_1420 q_1421 h9_L_undo ⟨Nat.le_of_ble_eq_true rfl, Nat.le_of_ble_eq_true rfl⟩ ⟨Nat.le_of_ble_eq_true rfl, Nat.le_of_ble_eq_true rfl⟩ (Nat.le_of_ble_eq_true rfl) rfl dL_isKept_110 (fun z69 _ e68 => ?_)
              show gAt X 7884 47304 6 r66.2 z69 gE0 [(0, .ref a0), (1, .ref a1), (2, .int u2), (3, .int r1)] [.int r66.1] 113
              refine g_bipush (v := (-79)) hC dL_isKept_113 (by decide) ?_
              refine g_icmp_ne hC 122 dL_isKept_115 (by decide) (fun c70 => ?_) (fun c70 => ?_)
              · replace hF := fi_neg hF c70
                refine g_iconst (v := 0) hC dL_isKept_122 (by decide) ?_
                obtain rfl := Option.some.inj hF
                refine g_widen (k' := 7884) (s' := 47304) (by omega) (by omega) ?_
                exact g_zret hC hEn (fSm.tr e68 (fSm.tr e57 (fSm.tr e52 p28))) (nar_z (by decide)) dL_isKept_123
              · replace hF := fi_pos hF c70
                refine g_iconst (v := 1) hC dL_isKept_118 (by decide) ?_
                refine g_goto hC 123 dL_isKept_119 (by decide) ?_
                obtain rfl := Option.some.inj hF
                refine g_widen (k' := 7884) (s' := 47304) (by omega) (by omega) ?_
                exact g_zret hC hEn (fSm.tr e68 (fSm.tr e57 (fSm.tr e52 p28))) (nar_z (by decide)) dL_isKept_123
      refine g_sub (L' := [(0, .ref a0), (1, .ref a1), (2, .int u2), (3, .int r1), (4, .int r20), (5, .int (u2 - 1))]) [3, 4, 5, 2, 1, 0] rfl ?_
      refine g_widen (k' := ((9 - 9) * 788 + 2)) (s' := ((9 - 9) * 4728 + 12)) (by omega) (by omega) ?_
      have q8 : ∀ n9 s9, _ → (fun (n33 : Nat) (s24 : Int32 × Int32 × FW) => n33 ≤ 9 → ∀ z35 : Nat, fSm s24.2.2 w → gAt X ((9 - n33) * 788 + 2) ((9 - n33) * 4728 + 12) 6 s24.2.2 z35 gE0 [(0, .ref a0), (1, .ref a1), (2, .int u2), (3, .int r1), (4, .int s24.1), (5, .int s24.2.1)] [] 44) n9 s9 := fLoopB_ind (fun (n33 : Nat) (s24 : Int32 × Int32 × FW) => n33 ≤ 9 → ∀ z35 : Nat, fSm s24.2.2 w → gAt X ((9 - n33) * 788 + 2) ((9 - n33) * 4728 + 12) 6 s24.2.2 z35 gE0 [(0, .ref a0), (1, .ref a1), (2, .int u2), (3, .int r1), (4, .int s24.1), (5, .int s24.2.1)] [] 44) (fun n33 s24 y29 h25 go26 ou27 => by
          intro l34 z35 p28
          refine g_iload hC dL_isKept_44 4 rfl ?_
          refine g_if_le hC 81 dL_isKept_46 (by decide) (fun c37 => ?_) (fun c37 => ?_)
          · replace h25 := fi_pos h25 c37
            obtain rfl := Option.some.inj h25
            have eo := ou27 _ rfl
            refine g_sub (L' := [(0, .ref a0), (1, .ref a1), (2, .int u2), (3, .int r1)]) [0, 1, 2, 3] rfl ?_
            refine g_widen (k' := 7094) (s' := 42564) (by omega) (by omega) ?_
            exact K32 _ eo.symm _ p28
          · replace h25 := fi_neg h25 c37
            refine g_iinc (L' := [(4, .int (s24.1 + (-1))), (0, .ref a0), (1, .ref a1), (2, .int u2), (3, .int r1), (5, .int s24.2.1)]) hC dL_isKept_49 4 rfl rfl (by decide) rfl ?_
            refine g_aload_n hC dL_isKept_52 rfl 1 rfl ?_
            obtain ⟨r38, h39, h25⟩ := fb_open h25
            refine g_callLW hC hL [.ref a0] (c_L_undo l D cy a0 s24.2.2 r38 h39) (Or.inl rfl) (fun _ _ h => nomatch h) q_1422 q_72 q_1420 q_1421 h9_L_undo ⟨Nat.le_of_ble_eq_true rfl, Nat.le_of_ble_eq_true rfl⟩ ⟨show ((9 - (n33 + 1)) * 788 + 3) ≤ 7884 from by omega, show ((9 - (n33 + 1)) * 4728 + 18) ≤ 47304 from by omega⟩ (Nat.le_of_ble_eq_true rfl) rfl dL_isKept_53 (fun z41 _ e40 => ?_)
            show gAt X ((9 - (n33 + 1)) * 788 + 3) ((9 - (n33 + 1)) * 4728 + 18) 6 r38.2 z41 gE0 [(4, .int (s24.1 + (-1))), (0, .ref a0), (1, .ref a1), (2, .int u2), (3, .int r1), (5, .int s24.2.1)] [.int r38.1] 56
            refine g_iload hC dL_isKept_56 0 rfl ?_
            refine g_icmp_ne hC 73 dL_isKept_58 (by decide) (fun c42 => ?_) (fun c42 => ?_)
            · replace h25 := fi_neg h25 c42
              refine g_iconst (v := 0) hC dL_isKept_73 (by decide) ?_
              obtain rfl := Option.some.inj h25
              obtain rfl := ou27 _ rfl
              obtain rfl := Option.some.inj hF
              refine g_widen (k' := 7884) (s' := 47304) (by omega) (by omega) ?_
              exact g_zret hC hEn (fSm.tr e40 p28) (nar_z (by decide)) dL_isKept_74
            · replace h25 := fi_pos h25 c42
              refine g_aload_n hC dL_isKept_61 rfl 1 rfl ?_
              obtain ⟨r43, h44, h25⟩ := fb_open h25
              refine g_callL hC hL [.ref a0] (c_L_sum l D cy a0 r38.2 r43 h44) (Or.inl rfl) (fun _ _ h => nomatch h) q_1187 q_72 q_1185 q_1186 h9_L_sum ⟨Nat.le_of_ble_eq_true rfl, Nat.le_of_ble_eq_true rfl⟩ ⟨show ((9 - (n33 + 1)) * 788 + 790) ≤ 7884 from by omega, show ((9 - (n33 + 1)) * 4728 + 4740) ≤ 47304 from by omega⟩ (Nat.le_of_ble_eq_true rfl) rfl dL_isKept_62 (fun z46 _ e45 => ?_)
              show gAt X ((9 - (n33 + 1)) * 788 + 790) ((9 - (n33 + 1)) * 4728 + 4740) 6 r38.2 z46 gE0 [(4, .int (s24.1 + (-1))), (0, .ref a0), (1, .ref a1), (2, .int u2), (3, .int r1), (5, .int s24.2.1)] [.long r43] 65
              refine g_aload_n hC dL_isKept_65 rfl 2 rfl ?_
              refine g_iload hC dL_isKept_66 5 rfl ?_
              obtain ⟨g47, h25⟩ := fg_open h25
              refine g_laldR hC hL (f := fs) (if_pos rfl) g47 dL_isKept_68 ?_
              refine g_lcmp hC dL_isKept_69 ?_
              refine g_if_eq hC 75 dL_isKept_70 (by decide) (fun c48 => ?_) (fun c48 => ?_)
              · replace h25 := fi_pos h25 c48
                refine g_iinc (L' := [(5, .int (s24.2.1 + (-1))), (4, .int (s24.1 + (-1))), (0, .ref a0), (1, .ref a1), (2, .int u2), (3, .int r1)]) hC dL_isKept_75 5 rfl rfl (by decide) rfl ?_
                refine g_goto hC 44 dL_isKept_78 (by decide) ?_
                obtain rfl := Option.some.inj h25
                refine g_sub (L' := [(0, .ref a0), (1, .ref a1), (2, .int u2), (3, .int r1), (4, .int (s24.1 + (-1))), (5, .int (s24.2.1 + (-1)))]) [2, 3, 4, 5, 1, 0] rfl ?_
                refine g_widen (k' := ((9 - n33) * 788 + 2)) (s' := ((9 - n33) * 4728 + 12)) (by omega) (by omega) ?_
                have z9 := go26 ((s24.1 + (-1)), (s24.2.1 + (-1)), r38.2) rfl (by omega) _ (fSm.tr e40 p28)
                exact z9
              · replace h25 := fi_neg h25 c48
                refine g_iconst (v := 0) hC dL_isKept_73 (by decide) ?_
                obtain rfl := Option.some.inj h25
                obtain rfl := ou27 _ rfl
                obtain rfl := Option.some.inj hF
                refine g_widen (k' := 7884) (s' := 47304) (by omega) (by omega) ?_
                exact g_zret hC hEn (fSm.tr e40 p28) (nar_z (by decide)) dL_isKept_74)
      exact q8 9 _ h31 (Nat.le_refl _) _ (fSm.tr e7 (fSm.rf w))
    · replace hF := fi_neg hF c19
      refine g_iconst (v := 0) hC dL_isKept_29 (by decide) ?_
      obtain rfl := Option.some.inj hF
      refine g_widen (k' := 7884) (s' := 47304) (by omega) (by omega) ?_
      exact g_zret hC hEn (fSm.tr e7 (fSm.rf w)) (nar_z (by decide)) dL_isKept_30
