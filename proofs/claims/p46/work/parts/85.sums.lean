theorem bud3 (b c x y : Nat) (h : c + x = y) : b + c + x ≤ b + y := by
  rw [Nat.add_assoc, h]
  exact Nat.le_refl _
theorem dL_sum_0 : decode cL_sum 0 = .ok (.lconst 0, 1) := by decide +kernel
theorem dL_sum_1 : decode cL_sum 1 = .ok (.lstore_n 1, 1) := by decide +kernel
theorem dL_sum_2 : decode cL_sum 2 = .ok (.iconst 0, 1) := by decide +kernel
theorem dL_sum_3 : decode cL_sum 3 = .ok (.istore_n 3, 1) := by decide +kernel
theorem dL_sum_4 : decode cL_sum 4 = .ok (.iload_n 3, 1) := by decide +kernel
theorem dL_sum_5 : decode cL_sum 5 = .ok (.bipush 12, 2) := by decide +kernel
theorem dL_sum_7 : decode cL_sum 7 = .ok (.if_icmp .ge 22, 3) := by decide +kernel
theorem dL_sum_10 : decode cL_sum 10 = .ok (.ldc2_w 300, 3) := by decide +kernel
theorem dL_sum_13 : decode cL_sum 13 = .ok (.lload_n 1, 1) := by decide +kernel
theorem dL_sum_14 : decode cL_sum 14 = .ok (.lmul, 1) := by decide +kernel
theorem dL_sum_15 : decode cL_sum 15 = .ok (.aload_n 0, 1) := by decide +kernel
theorem dL_sum_16 : decode cL_sum 16 = .ok (.iload_n 3, 1) := by decide +kernel
theorem dL_sum_17 : decode cL_sum 17 = .ok (.invokestatic 189, 3) := by decide +kernel
theorem dL_sum_20 : decode cL_sum 20 = .ok (.i2l, 1) := by decide +kernel
theorem dL_sum_21 : decode cL_sum 21 = .ok (.ladd, 1) := by decide +kernel
theorem dL_sum_22 : decode cL_sum 22 = .ok (.lstore_n 1, 1) := by decide +kernel
theorem dL_sum_23 : decode cL_sum 23 = .ok (.iinc 3 1, 3) := by decide +kernel
theorem dL_sum_26 : decode cL_sum 26 = .ok (.goto (-22), 3) := by decide +kernel
theorem dL_sum_29 : decode cL_sum 29 = .ok (.iconst 0, 1) := by decide +kernel
theorem dL_sum_30 : decode cL_sum 30 = .ok (.istore_n 3, 1) := by decide +kernel
theorem dL_sum_31 : decode cL_sum 31 = .ok (.iload_n 3, 1) := by decide +kernel
theorem dL_sum_32 : decode cL_sum 32 = .ok (.aload_n 0, 1) := by decide +kernel
theorem dL_sum_33 : decode cL_sum 33 = .ok (.iconst 0, 1) := by decide +kernel
theorem dL_sum_34 : decode cL_sum 34 = .ok (.invokestatic 189, 3) := by decide +kernel
theorem dL_sum_37 : decode cL_sum 37 = .ok (.if_icmp .ge 105, 3) := by decide +kernel
theorem dL_sum_40 : decode cL_sum 40 = .ok (.iconst 0, 1) := by decide +kernel
theorem dL_sum_41 : decode cL_sum 41 = .ok (.istore 4, 2) := by decide +kernel
theorem dL_sum_43 : decode cL_sum 43 = .ok (.iload 4, 2) := by decide +kernel
theorem dL_sum_45 : decode cL_sum 45 = .ok (.bipush 7, 2) := by decide +kernel
theorem dL_sum_47 : decode cL_sum 47 = .ok (.if_icmp .ge 54, 3) := by decide +kernel
theorem dL_sum_50 : decode cL_sum 50 = .ok (.ldc2_w 300, 3) := by decide +kernel
theorem dL_sum_53 : decode cL_sum 53 = .ok (.lload_n 1, 1) := by decide +kernel
theorem dL_sum_54 : decode cL_sum 54 = .ok (.lmul, 1) := by decide +kernel
theorem dL_sum_55 : decode cL_sum 55 = .ok (.aload_n 0, 1) := by decide +kernel
theorem dL_sum_56 : decode cL_sum 56 = .ok (.iload_n 3, 1) := by decide +kernel
theorem dL_sum_57 : decode cL_sum 57 = .ok (.iload 4, 2) := by decide +kernel
theorem dL_sum_59 : decode cL_sum 59 = .ok (.invokestatic 302, 3) := by decide +kernel
theorem dL_sum_62 : decode cL_sum 62 = .ok (.i2l, 1) := by decide +kernel
theorem dL_sum_63 : decode cL_sum 63 = .ok (.ladd, 1) := by decide +kernel
theorem dL_sum_64 : decode cL_sum 64 = .ok (.lstore_n 1, 1) := by decide +kernel
theorem dL_sum_65 : decode cL_sum 65 = .ok (.ldc2_w 300, 3) := by decide +kernel
theorem dL_sum_68 : decode cL_sum 68 = .ok (.lload_n 1, 1) := by decide +kernel
theorem dL_sum_69 : decode cL_sum 69 = .ok (.lmul, 1) := by decide +kernel
theorem dL_sum_70 : decode cL_sum 70 = .ok (.ldc2_w 304, 3) := by decide +kernel
theorem dL_sum_73 : decode cL_sum 73 = .ok (.aload_n 0, 1) := by decide +kernel
theorem dL_sum_74 : decode cL_sum 74 = .ok (.iload_n 3, 1) := by decide +kernel
theorem dL_sum_75 : decode cL_sum 75 = .ok (.iconst 0, 1) := by decide +kernel
theorem dL_sum_76 : decode cL_sum 76 = .ok (.iload 4, 2) := by decide +kernel
theorem dL_sum_78 : decode cL_sum 78 = .ok (.invokestatic 205, 3) := by decide +kernel
theorem dL_sum_81 : decode cL_sum 81 = .ok (.i2l, 1) := by decide +kernel
theorem dL_sum_82 : decode cL_sum 82 = .ok (.lmul, 1) := by decide +kernel
theorem dL_sum_83 : decode cL_sum 83 = .ok (.ladd, 1) := by decide +kernel
theorem dL_sum_84 : decode cL_sum 84 = .ok (.aload_n 0, 1) := by decide +kernel
theorem dL_sum_85 : decode cL_sum 85 = .ok (.iload_n 3, 1) := by decide +kernel
theorem dL_sum_86 : decode cL_sum 86 = .ok (.iconst 1, 1) := by decide +kernel
theorem dL_sum_87 : decode cL_sum 87 = .ok (.iload 4, 2) := by decide +kernel
theorem dL_sum_89 : decode cL_sum 89 = .ok (.invokestatic 205, 3) := by decide +kernel
theorem dL_sum_92 : decode cL_sum 92 = .ok (.i2l, 1) := by decide +kernel
theorem dL_sum_93 : decode cL_sum 93 = .ok (.ladd, 1) := by decide +kernel
theorem dL_sum_94 : decode cL_sum 94 = .ok (.lstore_n 1, 1) := by decide +kernel
theorem dL_sum_95 : decode cL_sum 95 = .ok (.iinc 4 1, 3) := by decide +kernel
theorem dL_sum_98 : decode cL_sum 98 = .ok (.goto (-55), 3) := by decide +kernel
theorem dL_sum_101 : decode cL_sum 101 = .ok (.iconst 0, 1) := by decide +kernel
theorem dL_sum_102 : decode cL_sum 102 = .ok (.istore 4, 2) := by decide +kernel
theorem dL_sum_104 : decode cL_sum 104 = .ok (.iload 4, 2) := by decide +kernel
theorem dL_sum_106 : decode cL_sum 106 = .ok (.aload_n 0, 1) := by decide +kernel
theorem dL_sum_107 : decode cL_sum 107 = .ok (.iload_n 3, 1) := by decide +kernel
theorem dL_sum_108 : decode cL_sum 108 = .ok (.iconst 0, 1) := by decide +kernel
theorem dL_sum_109 : decode cL_sum 109 = .ok (.invokestatic 302, 3) := by decide +kernel
theorem dL_sum_112 : decode cL_sum 112 = .ok (.if_icmp .ge 24, 3) := by decide +kernel
theorem dL_sum_115 : decode cL_sum 115 = .ok (.ldc2_w 300, 3) := by decide +kernel
theorem dL_sum_118 : decode cL_sum 118 = .ok (.lload_n 1, 1) := by decide +kernel
theorem dL_sum_119 : decode cL_sum 119 = .ok (.lmul, 1) := by decide +kernel
theorem dL_sum_120 : decode cL_sum 120 = .ok (.aload_n 0, 1) := by decide +kernel
theorem dL_sum_121 : decode cL_sum 121 = .ok (.iload_n 3, 1) := by decide +kernel
theorem dL_sum_122 : decode cL_sum 122 = .ok (.iload 4, 2) := by decide +kernel
theorem dL_sum_124 : decode cL_sum 124 = .ok (.invokestatic 306, 3) := by decide +kernel
theorem dL_sum_127 : decode cL_sum 127 = .ok (.i2l, 1) := by decide +kernel
theorem dL_sum_128 : decode cL_sum 128 = .ok (.ladd, 1) := by decide +kernel
theorem dL_sum_129 : decode cL_sum 129 = .ok (.lstore_n 1, 1) := by decide +kernel
theorem dL_sum_130 : decode cL_sum 130 = .ok (.iinc 4 1, 3) := by decide +kernel
theorem dL_sum_133 : decode cL_sum 133 = .ok (.goto (-29), 3) := by decide +kernel
theorem dL_sum_136 : decode cL_sum 136 = .ok (.iinc 3 1, 3) := by decide +kernel
theorem dL_sum_139 : decode cL_sum 139 = .ok (.goto (-108), 3) := by decide +kernel
theorem dL_sum_142 : decode cL_sum 142 = .ok (.lload_n 1, 1) := by decide +kernel
theorem dL_sum_143 : decode cL_sum 143 = .ok (.lreturn, 1) := by decide +kernel
theorem h9_L_sum : yL_sum.cls ≠ "java/lang/invoke/MethodHandle" ∧ yL_sum.cls ≠ "java/lang/invoke/VarHandle" ∧ (parseMethodDescriptor yL_sum.desc).map (fun d => d.parameters.length) = some 1 := by decide +kernel
noncomputable def F_L_sum (a0 : Nat) (w : FW) : Option (Int64) :=
  (fLoopB (σ := Int64 × Int32) (ρ := Int64) (fun s1 => (if 12 ≤ s1.2 then some (.inr s1.1) else (F_L_account a0 s1.2 w).bind (fun r17 => some (.inl ((((31 : Int64) * s1.1) + (Int32.toInt64 r17)), (s1.2 + 1)))))) 13 (0, 0)).bind (fun x7 => (fLoopB (σ := Int64 × Int32) (ρ := Int64) (fun s21 => (F_L_account a0 0 w).bind (fun r36 => (if r36 ≤ s21.2 then some (.inr s21.1) else (fLoopB (σ := Int64 × Int32) (ρ := Int64) (fun s41 => (if 7 ≤ s41.2 then some (.inr s41.1) else (F_L_ticketOf a0 s21.2 s41.2 w).bind (fun r57 => (F_L_halfOf a0 s21.2 0 s41.2 w).bind (fun r61 => (F_L_halfOf a0 s21.2 1 s41.2 w).bind (fun r65 => some (.inl (((((31 : Int64) * (((31 : Int64) * s41.1) + (Int32.toInt64 r57))) + ((7 : Int64) * (Int32.toInt64 r61))) + (Int32.toInt64 r65)), (s41.2 + 1)))))))) 8 (s21.1, 0)).bind (fun x47 => (fLoopB (σ := Int64 × Int32) (ρ := Int64) (fun s69 => (F_L_ticketOf a0 s21.2 0 w).bind (fun r84 => (if r84 ≤ s69.2 then some (.inr s69.1) else (F_L_wordAt a0 s21.2 s69.2 w).bind (fun r89 => some (.inl ((((31 : Int64) * s69.1) + (Int32.toInt64 r89)), (s69.2 + 1))))))) 7 (x47, 0)).bind (fun x75 => some (.inl (x75, (s21.2 + 1)))))))) 9 (x7, 0)).bind (fun x27 => some x27))
set_option maxHeartbeats 4000000 in
set_option maxRecDepth 100000 in
theorem c_L_sum (l : Launch) (D : va_G) (cy : Nat → ClassId) (a0 : Nat) (w : FW) (r : Int64) (hF : F_L_sum a0 w = some r) : lSpec l D cy yL_sum (.code yL_sum cL_sum 5 (some .long)) { frames := 9, cells := 706, slots := 4236, locals := 185 } [.ref a0] gE0 none w w (some (.long r)) := by
  refine l_begin (by decide +kernel) (Nat.le_of_ble_eq_true rfl) (fun X h hC hEn hL => ?_)
  unfold F_L_sum at hF
  show gAt X 0 0 5 w h gE0 [(0, .ref a0)] [] 0
  refine g_lconst (v := 0) hC dL_sum_0 (by decide) ?_
  refine g_lstore_n (L' := [(1, .long 0), (0, .ref a0)]) hC dL_sum_1 rfl (by decide) rfl ?_
  refine g_iconst (v := 0) hC dL_sum_2 (by decide) ?_
  refine g_istore_n (L' := [(3, .int 0), (1, .long 0), (0, .ref a0)]) hC dL_sum_3 rfl (by decide) rfl ?_
  obtain ⟨x7, h8, hF⟩ := fb_open hF
  have K9 : ∀ z13, gAt X 13 78 5 w z13 gE0 [(0, .ref a0), (1, .long x7)] [] 29 := by
    intro z13
    refine g_iconst (v := 0) hC dL_sum_29 (by decide) ?_
    refine g_istore_n (L' := [(3, .int 0), (0, .ref a0), (1, .long x7)]) hC dL_sum_30 rfl (by decide) rfl ?_
    obtain ⟨x27, h28, hF⟩ := fb_open hF
    have K29 : ∀ z33, gAt X 706 4236 5 w z33 gE0 [(1, .long x27)] [] 142 := by
      intro z33
      refine g_lload_n hC dL_sum_142 rfl 0 rfl ?_
      obtain rfl := Option.some.inj hF
      refine g_widen (k' := 706) (s' := 4236) (by omega) (by omega) ?_
      exact g_lret hC hEn (fSm.rf w) dL_sum_143
    refine g_sub (L' := [(0, .ref a0), (1, .long x7), (3, .int 0)]) [1, 2, 0] rfl ?_
    refine fLoopB_use h28 (fun (n30 : Nat) (s21 : Int64 × Int32) => ∀ b34 d34 : Nat, b34 + n30 * 77 ≤ 706 ∧ d34 + n30 * 462 ≤ 4236 → ∀ z32 : Nat, gAt X b34 d34 5 w z32 gE0 [(0, .ref a0), (1, .long s21.1), (3, .int s21.2)] [] 31) (fun n30 s21 y26 h22 go23 ou24 => ?_) 13 78 ⟨Nat.le_of_ble_eq_true rfl, Nat.le_of_ble_eq_true rfl⟩ _
    intro b34 d34 k35 z32
    obtain ⟨k35, k35'⟩ := k35
    refine g_iload_n hC dL_sum_31 rfl 2 rfl ?_
    refine g_aload_n hC dL_sum_32 rfl 0 rfl ?_
    refine g_iconst (v := 0) hC dL_sum_33 (by decide) ?_
    obtain ⟨r36, h37, h22⟩ := fb_open h22
    refine g_callLWk hC hL [.ref a0, .int 0] (c_L_account l D cy a0 0 w r36 h37) (Or.inl rfl) (fun _ _ h => nomatch h) q_597 q_72 q_595 q_596 h9_L_account ⟨Nat.le_of_ble_eq_true rfl, Nat.le_of_ble_eq_true rfl⟩ 1 6 rfl rfl ⟨show b34 + 1 ≤ 706 from by omega, show d34 + 6 ≤ 4236 from by omega⟩ (Nat.le_of_ble_eq_true rfl) rfl dL_sum_34 (fun z39 _ e38 => ?_)
    refine g_cs (b34 + 1) (d34 + 6) (show (b34 + 1) = b34 + 1 from by omega) (show (d34 + 6) = d34 + 6 from by omega) ?_
    show gAt X (b34 + 1) (d34 + 6) 5 w z39 gE0 [(0, .ref a0), (1, .long s21.1), (3, .int s21.2)] [.int r36, .int s21.2] 37
    refine g_icmp_ge hC 142 dL_sum_37 (by decide) (fun c40 => ?_) (fun c40 => ?_)
    · replace h22 := fi_pos h22 c40
      obtain rfl := Option.some.inj h22
      obtain rfl := ou24 _ rfl
      refine g_sub (L' := [(1, .long s21.1)]) [1] rfl ?_
      refine g_widen (k' := 706) (s' := 4236) (by omega) (by omega) ?_
      exact K29 _
    · replace h22 := fi_neg h22 c40
      refine g_iconst (v := 0) hC dL_sum_40 (by decide) ?_
      refine g_istore (L' := [(4, .int 0), (0, .ref a0), (1, .long s21.1), (3, .int s21.2)]) hC dL_sum_41 (by decide) rfl ?_
      obtain ⟨x47, h48, h22⟩ := fb_open h22
      have K49 : ∀ z53, gAt X (b34 + 49) (d34 + 294) 5 w z53 gE0 [(0, .ref a0), (1, .long x47), (3, .int s21.2)] [] 101 := by
        intro z53
        refine g_iconst (v := 0) hC dL_sum_101 (by decide) ?_
        refine g_istore (L' := [(4, .int 0), (0, .ref a0), (1, .long x47), (3, .int s21.2)]) hC dL_sum_102 (by decide) rfl ?_
        obtain ⟨x75, h76, h22⟩ := fb_open h22
        have K77 : ∀ z81, gAt X (b34 + 77) (d34 + 462) 5 w z81 gE0 [(0, .ref a0), (1, .long x75), (3, .int s21.2)] [] 136 := by
          intro z81
          refine g_iinc (L' := [(3, .int (s21.2 + 1)), (0, .ref a0), (1, .long x75)]) hC dL_sum_136 2 rfl rfl (by decide) rfl ?_
          refine g_goto hC 31 dL_sum_139 (by decide) ?_
          obtain rfl := Option.some.inj h22
          refine g_sub (L' := [(0, .ref a0), (1, .long x75), (3, .int (s21.2 + 1))]) [1, 2, 0] rfl ?_
          exact go23 (x75, (s21.2 + 1)) rfl _ _ ⟨by omega, by omega⟩ _
        refine g_sub (L' := [(0, .ref a0), (1, .long x47), (3, .int s21.2), (4, .int 0)]) [1, 2, 3, 0] rfl ?_
        refine fLoopB_use h76 (fun (n78 : Nat) (s69 : Int64 × Int32) => ∀ b82 d82 : Nat, b82 + n78 * 4 ≤ (b34 + 77) ∧ d82 + n78 * 24 ≤ (d34 + 462) → ∀ z80 : Nat, gAt X b82 d82 5 w z80 gE0 [(0, .ref a0), (1, .long s69.1), (3, .int s21.2), (4, .int s69.2)] [] 104) (fun n78 s69 y74 h70 go71 ou72 => ?_) (b34 + 49) (d34 + 294) ⟨bud3 b34 49 (7 * 4) 77 rfl, bud3 d34 294 (7 * 24) 462 rfl⟩ _
        intro b82 d82 k83 z80
        obtain ⟨k83, k83'⟩ := k83
        refine g_iload hC dL_sum_104 3 rfl ?_
        refine g_aload_n hC dL_sum_106 rfl 0 rfl ?_
        refine g_iload_n hC dL_sum_107 rfl 2 rfl ?_
        refine g_iconst (v := 0) hC dL_sum_108 (by decide) ?_
        obtain ⟨r84, h85, h70⟩ := fb_open h70
        refine g_callLWk hC hL [.ref a0, .int s21.2, .int 0] (c_L_ticketOf l D cy a0 s21.2 0 w r84 h85) (Or.inl rfl) (fun _ _ h => nomatch h) q_1191 q_72 q_1189 q_1190 h9_L_ticketOf ⟨Nat.le_of_ble_eq_true rfl, Nat.le_of_ble_eq_true rfl⟩ 2 12 rfl rfl ⟨show b82 + 2 ≤ 706 from by omega, show d82 + 12 ≤ 4236 from by omega⟩ (Nat.le_of_ble_eq_true rfl) rfl dL_sum_109 (fun z87 _ e86 => ?_)
        refine g_cs (b82 + 2) (d82 + 12) (show (b82 + 2) = b82 + 2 from by omega) (show (d82 + 12) = d82 + 12 from by omega) ?_
        show gAt X (b82 + 2) (d82 + 12) 5 w z87 gE0 [(0, .ref a0), (1, .long s69.1), (3, .int s21.2), (4, .int s69.2)] [.int r84, .int s69.2] 112
        refine g_icmp_ge hC 136 dL_sum_112 (by decide) (fun c88 => ?_) (fun c88 => ?_)
        · replace h70 := fi_pos h70 c88
          obtain rfl := Option.some.inj h70
          obtain rfl := ou72 _ rfl
          refine g_sub (L' := [(0, .ref a0), (1, .long s69.1), (3, .int s21.2)]) [0, 1, 2] rfl ?_
          refine g_widen (k' := (b34 + 77)) (s' := (d34 + 462)) (by omega) (by omega) ?_
          exact K77 _
        · replace h70 := fi_neg h70 c88
          refine g_ldc2l hC q_1188 dL_sum_115 ?_
          refine g_lload_n hC dL_sum_118 rfl 1 rfl ?_
          refine g_lmul hC dL_sum_119 ?_
          refine g_aload_n hC dL_sum_120 rfl 0 rfl ?_
          refine g_iload_n hC dL_sum_121 rfl 2 rfl ?_
          refine g_iload hC dL_sum_122 3 rfl ?_
          obtain ⟨r89, h90, h70⟩ := fb_open h70
          refine g_callLWk hC hL [.ref a0, .int s21.2, .int s69.2] (c_L_wordAt l D cy a0 s21.2 s69.2 w r89 h90) (Or.inl rfl) (fun _ _ h => nomatch h) q_1200 q_72 q_1198 q_1199 h9_L_wordAt ⟨Nat.le_of_ble_eq_true rfl, Nat.le_of_ble_eq_true rfl⟩ 2 12 rfl rfl ⟨show (b82 + 2) + 2 ≤ 706 from by omega, show (d82 + 12) + 12 ≤ 4236 from by omega⟩ (Nat.le_of_ble_eq_true rfl) rfl dL_sum_124 (fun z92 _ e91 => ?_)
          refine g_cs (b82 + 4) (d82 + 24) (show (b82 + 4) = (b82 + 2) + 2 from by omega) (show (d82 + 24) = (d82 + 12) + 12 from by omega) ?_
          show gAt X (b82 + 4) (d82 + 24) 5 w z92 gE0 [(0, .ref a0), (1, .long s69.1), (3, .int s21.2), (4, .int s69.2)] [.int r89, .long ((31 : Int64) * s69.1)] 127
          refine g_i2l hC dL_sum_127 ?_
          refine g_ladd hC dL_sum_128 ?_
          refine g_lstore_n (L' := [(1, .long (((31 : Int64) * s69.1) + (Int32.toInt64 r89))), (0, .ref a0), (3, .int s21.2), (4, .int s69.2)]) hC dL_sum_129 rfl (by decide) rfl ?_
          refine g_iinc (L' := [(4, .int (s69.2 + 1)), (1, .long (((31 : Int64) * s69.1) + (Int32.toInt64 r89))), (0, .ref a0), (3, .int s21.2)]) hC dL_sum_130 3 rfl rfl (by decide) rfl ?_
          refine g_goto hC 104 dL_sum_133 (by decide) ?_
          obtain rfl := Option.some.inj h70
          refine g_sub (L' := [(0, .ref a0), (1, .long (((31 : Int64) * s69.1) + (Int32.toInt64 r89))), (3, .int s21.2), (4, .int (s69.2 + 1))]) [2, 1, 3, 0] rfl ?_
          exact go71 ((((31 : Int64) * s69.1) + (Int32.toInt64 r89)), (s69.2 + 1)) rfl _ _ ⟨by omega, by omega⟩ _
      refine g_sub (L' := [(0, .ref a0), (1, .long s21.1), (3, .int s21.2), (4, .int 0)]) [1, 2, 3, 0] rfl ?_
      refine fLoopB_use h48 (fun (n50 : Nat) (s41 : Int64 × Int32) => ∀ b54 d54 : Nat, b54 + n50 * 6 ≤ (b34 + 49) ∧ d54 + n50 * 36 ≤ (d34 + 294) → ∀ z52 : Nat, gAt X b54 d54 5 w z52 gE0 [(0, .ref a0), (1, .long s41.1), (3, .int s21.2), (4, .int s41.2)] [] 43) (fun n50 s41 y46 h42 go43 ou44 => ?_) (b34 + 1) (d34 + 6) ⟨bud3 b34 1 (8 * 6) 49 rfl, bud3 d34 6 (8 * 36) 294 rfl⟩ _
      intro b54 d54 k55 z52
      obtain ⟨k55, k55'⟩ := k55
      refine g_iload hC dL_sum_43 3 rfl ?_
      refine g_bipush (v := 7) hC dL_sum_45 (by decide) ?_
      refine g_icmp_ge hC 101 dL_sum_47 (by decide) (fun c56 => ?_) (fun c56 => ?_)
      · replace h42 := fi_pos h42 c56
        obtain rfl := Option.some.inj h42
        obtain rfl := ou44 _ rfl
        refine g_sub (L' := [(0, .ref a0), (1, .long s41.1), (3, .int s21.2)]) [0, 1, 2] rfl ?_
        refine g_widen (k' := (b34 + 49)) (s' := (d34 + 294)) (by omega) (by omega) ?_
        exact K49 _
      · replace h42 := fi_neg h42 c56
        refine g_ldc2l hC q_1188 dL_sum_50 ?_
        refine g_lload_n hC dL_sum_53 rfl 1 rfl ?_
        refine g_lmul hC dL_sum_54 ?_
        refine g_aload_n hC dL_sum_55 rfl 0 rfl ?_
        refine g_iload_n hC dL_sum_56 rfl 2 rfl ?_
        refine g_iload hC dL_sum_57 3 rfl ?_
        obtain ⟨r57, h58, h42⟩ := fb_open h42
        refine g_callLWk hC hL [.ref a0, .int s21.2, .int s41.2] (c_L_ticketOf l D cy a0 s21.2 s41.2 w r57 h58) (Or.inl rfl) (fun _ _ h => nomatch h) q_1191 q_72 q_1189 q_1190 h9_L_ticketOf ⟨Nat.le_of_ble_eq_true rfl, Nat.le_of_ble_eq_true rfl⟩ 2 12 rfl rfl ⟨show b54 + 2 ≤ 706 from by omega, show d54 + 12 ≤ 4236 from by omega⟩ (Nat.le_of_ble_eq_true rfl) rfl dL_sum_59 (fun z60 _ e59 => ?_)
        refine g_cs (b54 + 2) (d54 + 12) (show (b54 + 2) = b54 + 2 from by omega) (show (d54 + 12) = d54 + 12 from by omega) ?_
        show gAt X (b54 + 2) (d54 + 12) 5 w z60 gE0 [(0, .ref a0), (1, .long s41.1), (3, .int s21.2), (4, .int s41.2)] [.int r57, .long ((31 : Int64) * s41.1)] 62
        refine g_i2l hC dL_sum_62 ?_
        refine g_ladd hC dL_sum_63 ?_
        refine g_lstore_n (L' := [(1, .long (((31 : Int64) * s41.1) + (Int32.toInt64 r57))), (0, .ref a0), (3, .int s21.2), (4, .int s41.2)]) hC dL_sum_64 rfl (by decide) rfl ?_
        refine g_ldc2l hC q_1188 dL_sum_65 ?_
        refine g_lload_n hC dL_sum_68 rfl 0 rfl ?_
        refine g_lmul hC dL_sum_69 ?_
        refine g_ldc2l hC q_1197 dL_sum_70 ?_
        refine g_aload_n hC dL_sum_73 rfl 1 rfl ?_
        refine g_iload_n hC dL_sum_74 rfl 2 rfl ?_
        refine g_iconst (v := 0) hC dL_sum_75 (by decide) ?_
        refine g_iload hC dL_sum_76 3 rfl ?_
        obtain ⟨r61, h62, h42⟩ := fb_open h42
        refine g_callLWk hC hL [.ref a0, .int s21.2, .int 0, .int s41.2] (c_L_halfOf l D cy a0 s21.2 0 s41.2 w r61 h62) (Or.inl rfl) (fun _ _ h => nomatch h) q_315 q_72 q_313 q_314 h9_L_halfOf ⟨Nat.le_of_ble_eq_true rfl, Nat.le_of_ble_eq_true rfl⟩ 2 12 rfl rfl ⟨show (b54 + 2) + 2 ≤ 706 from by omega, show (d54 + 12) + 12 ≤ 4236 from by omega⟩ (Nat.le_of_ble_eq_true rfl) rfl dL_sum_78 (fun z64 _ e63 => ?_)
        refine g_cs (b54 + 4) (d54 + 24) (show (b54 + 4) = (b54 + 2) + 2 from by omega) (show (d54 + 24) = (d54 + 12) + 12 from by omega) ?_
        show gAt X (b54 + 4) (d54 + 24) 5 w z64 gE0 [(1, .long (((31 : Int64) * s41.1) + (Int32.toInt64 r57))), (0, .ref a0), (3, .int s21.2), (4, .int s41.2)] [.int r61, .long (7 : Int64), .long ((31 : Int64) * (((31 : Int64) * s41.1) + (Int32.toInt64 r57)))] 81
        refine g_i2l hC dL_sum_81 ?_
        refine g_lmul hC dL_sum_82 ?_
        refine g_ladd hC dL_sum_83 ?_
        refine g_aload_n hC dL_sum_84 rfl 1 rfl ?_
        refine g_iload_n hC dL_sum_85 rfl 2 rfl ?_
        refine g_iconst (v := 1) hC dL_sum_86 (by decide) ?_
        refine g_iload hC dL_sum_87 3 rfl ?_
        obtain ⟨r65, h66, h42⟩ := fb_open h42
        refine g_callLWk hC hL [.ref a0, .int s21.2, .int 1, .int s41.2] (c_L_halfOf l D cy a0 s21.2 1 s41.2 w r65 h66) (Or.inl rfl) (fun _ _ h => nomatch h) q_315 q_72 q_313 q_314 h9_L_halfOf ⟨Nat.le_of_ble_eq_true rfl, Nat.le_of_ble_eq_true rfl⟩ 2 12 rfl rfl ⟨show (b54 + 4) + 2 ≤ 706 from by omega, show (d54 + 24) + 12 ≤ 4236 from by omega⟩ (Nat.le_of_ble_eq_true rfl) rfl dL_sum_89 (fun z68 _ e67 => ?_)
        refine g_cs (b54 + 6) (d54 + 36) (show (b54 + 6) = (b54 + 4) + 2 from by omega) (show (d54 + 36) = (d54 + 24) + 12 from by omega) ?_
        show gAt X (b54 + 6) (d54 + 36) 5 w z68 gE0 [(1, .long (((31 : Int64) * s41.1) + (Int32.toInt64 r57))), (0, .ref a0), (3, .int s21.2), (4, .int s41.2)] [.int r65, .long (((31 : Int64) * (((31 : Int64) * s41.1) + (Int32.toInt64 r57))) + ((7 : Int64) * (Int32.toInt64 r61)))] 92
        refine g_i2l hC dL_sum_92 ?_
        refine g_ladd hC dL_sum_93 ?_
        refine g_lstore_n (L' := [(1, .long ((((31 : Int64) * (((31 : Int64) * s41.1) + (Int32.toInt64 r57))) + ((7 : Int64) * (Int32.toInt64 r61))) + (Int32.toInt64 r65))), (0, .ref a0), (3, .int s21.2), (4, .int s41.2)]) hC dL_sum_94 rfl (by decide) rfl ?_
        refine g_iinc (L' := [(4, .int (s41.2 + 1)), (1, .long ((((31 : Int64) * (((31 : Int64) * s41.1) + (Int32.toInt64 r57))) + ((7 : Int64) * (Int32.toInt64 r61))) + (Int32.toInt64 r65))), (0, .ref a0), (3, .int s21.2)]) hC dL_sum_95 3 rfl rfl (by decide) rfl ?_
        refine g_goto hC 43 dL_sum_98 (by decide) ?_
        obtain rfl := Option.some.inj h42
        refine g_sub (L' := [(0, .ref a0), (1, .long ((((31 : Int64) * (((31 : Int64) * s41.1) + (Int32.toInt64 r57))) + ((7 : Int64) * (Int32.toInt64 r61))) + (Int32.toInt64 r65))), (3, .int s21.2), (4, .int (s41.2 + 1))]) [2, 1, 3, 0] rfl ?_
        exact go43 (((((31 : Int64) * (((31 : Int64) * s41.1) + (Int32.toInt64 r57))) + ((7 : Int64) * (Int32.toInt64 r61))) + (Int32.toInt64 r65)), (s41.2 + 1)) rfl _ _ ⟨by omega, by omega⟩ _
  refine g_sub (L' := [(0, .ref a0), (1, .long 0), (3, .int 0)]) [2, 1, 0] rfl ?_
  refine fLoopB_use h8 (fun (n10 : Nat) (s1 : Int64 × Int32) => ∀ b14 d14 : Nat, b14 + n10 * 1 ≤ 13 ∧ d14 + n10 * 6 ≤ 78 → ∀ z12 : Nat, gAt X b14 d14 5 w z12 gE0 [(0, .ref a0), (1, .long s1.1), (3, .int s1.2)] [] 4) (fun n10 s1 y6 h2 go3 ou4 => ?_) 0 0 ⟨Nat.le_of_ble_eq_true rfl, Nat.le_of_ble_eq_true rfl⟩ _
  intro b14 d14 k15 z12
  obtain ⟨k15, k15'⟩ := k15
  refine g_iload_n hC dL_sum_4 rfl 2 rfl ?_
  refine g_bipush (v := 12) hC dL_sum_5 (by decide) ?_
  refine g_icmp_ge hC 29 dL_sum_7 (by decide) (fun c16 => ?_) (fun c16 => ?_)
  · replace h2 := fi_pos h2 c16
    obtain rfl := Option.some.inj h2
    obtain rfl := ou4 _ rfl
    refine g_sub (L' := [(0, .ref a0), (1, .long s1.1)]) [0, 1] rfl ?_
    refine g_widen (k' := 13) (s' := 78) (by omega) (by omega) ?_
    exact K9 _
  · replace h2 := fi_neg h2 c16
    refine g_ldc2l hC q_1188 dL_sum_10 ?_
    refine g_lload_n hC dL_sum_13 rfl 1 rfl ?_
    refine g_lmul hC dL_sum_14 ?_
    refine g_aload_n hC dL_sum_15 rfl 0 rfl ?_
    refine g_iload_n hC dL_sum_16 rfl 2 rfl ?_
    obtain ⟨r17, h18, h2⟩ := fb_open h2
    refine g_callLWk hC hL [.ref a0, .int s1.2] (c_L_account l D cy a0 s1.2 w r17 h18) (Or.inl rfl) (fun _ _ h => nomatch h) q_597 q_72 q_595 q_596 h9_L_account ⟨Nat.le_of_ble_eq_true rfl, Nat.le_of_ble_eq_true rfl⟩ 1 6 rfl rfl ⟨show b14 + 1 ≤ 706 from by omega, show d14 + 6 ≤ 4236 from by omega⟩ (Nat.le_of_ble_eq_true rfl) rfl dL_sum_17 (fun z20 _ e19 => ?_)
    refine g_cs (b14 + 1) (d14 + 6) (show (b14 + 1) = b14 + 1 from by omega) (show (d14 + 6) = d14 + 6 from by omega) ?_
    show gAt X (b14 + 1) (d14 + 6) 5 w z20 gE0 [(0, .ref a0), (1, .long s1.1), (3, .int s1.2)] [.int r17, .long ((31 : Int64) * s1.1)] 20
    refine g_i2l hC dL_sum_20 ?_
    refine g_ladd hC dL_sum_21 ?_
    refine g_lstore_n (L' := [(1, .long (((31 : Int64) * s1.1) + (Int32.toInt64 r17))), (0, .ref a0), (3, .int s1.2)]) hC dL_sum_22 rfl (by decide) rfl ?_
    refine g_iinc (L' := [(3, .int (s1.2 + 1)), (1, .long (((31 : Int64) * s1.1) + (Int32.toInt64 r17))), (0, .ref a0)]) hC dL_sum_23 2 rfl rfl (by decide) rfl ?_
    refine g_goto hC 4 dL_sum_26 (by decide) ?_
    obtain rfl := Option.some.inj h2
    refine g_sub (L' := [(0, .ref a0), (1, .long (((31 : Int64) * s1.1) + (Int32.toInt64 r17))), (3, .int (s1.2 + 1))]) [2, 1, 0] rfl ?_
    exact go3 ((((31 : Int64) * s1.1) + (Int32.toInt64 r17)), (s1.2 + 1)) rfl _ _ ⟨by omega, by omega⟩ _
theorem dL_measure_0 : decode cL_measure 0 = .ok (.iload_n 1, 1) := by decide +kernel
theorem dL_measure_1 : decode cL_measure 1 = .ok (.ifCond .ne 7, 3) := by decide +kernel
theorem dL_measure_4 : decode cL_measure 4 = .ok (.iconst 2, 1) := by decide +kernel
theorem dL_measure_5 : decode cL_measure 5 = .ok (.goto 4, 3) := by decide +kernel
theorem dL_measure_8 : decode cL_measure 8 = .ok (.iconst 4, 1) := by decide +kernel
theorem dL_measure_9 : decode cL_measure 9 = .ok (.istore_n 3, 1) := by decide +kernel
theorem dL_measure_10 : decode cL_measure 10 = .ok (.iload_n 1, 1) := by decide +kernel
theorem dL_measure_11 : decode cL_measure 11 = .ok (.iconst 2, 1) := by decide +kernel
theorem dL_measure_12 : decode cL_measure 12 = .ok (.if_icmp .ne 12, 3) := by decide +kernel
theorem dL_measure_15 : decode cL_measure 15 = .ok (.aload_n 0, 1) := by decide +kernel
theorem dL_measure_16 : decode cL_measure 16 = .ok (.iload_n 2, 1) := by decide +kernel
theorem dL_measure_17 : decode cL_measure 17 = .ok (.iconst 0, 1) := by decide +kernel
theorem dL_measure_18 : decode cL_measure 18 = .ok (.invokestatic 302, 3) := by decide +kernel
theorem dL_measure_21 : decode cL_measure 21 = .ok (.goto 18, 3) := by decide +kernel
theorem dL_measure_24 : decode cL_measure 24 = .ok (.aload_n 0, 1) := by decide +kernel
theorem dL_measure_25 : decode cL_measure 25 = .ok (.iload_n 2, 1) := by decide +kernel
theorem dL_measure_26 : decode cL_measure 26 = .ok (.iconst 0, 1) := by decide +kernel
theorem dL_measure_27 : decode cL_measure 27 = .ok (.iload_n 3, 1) := by decide +kernel
theorem dL_measure_28 : decode cL_measure 28 = .ok (.invokestatic 205, 3) := by decide +kernel
theorem dL_measure_31 : decode cL_measure 31 = .ok (.aload_n 0, 1) := by decide +kernel
theorem dL_measure_32 : decode cL_measure 32 = .ok (.iload_n 2, 1) := by decide +kernel
theorem dL_measure_33 : decode cL_measure 33 = .ok (.iconst 1, 1) := by decide +kernel
theorem dL_measure_34 : decode cL_measure 34 = .ok (.iload_n 3, 1) := by decide +kernel
theorem dL_measure_35 : decode cL_measure 35 = .ok (.invokestatic 205, 3) := by decide +kernel
theorem dL_measure_38 : decode cL_measure 38 = .ok (.iadd, 1) := by decide +kernel
theorem dL_measure_39 : decode cL_measure 39 = .ok (.ireturn, 1) := by decide +kernel
theorem h9_L_measure : yL_measure.cls ≠ "java/lang/invoke/MethodHandle" ∧ yL_measure.cls ≠ "java/lang/invoke/VarHandle" ∧ (parseMethodDescriptor yL_measure.desc).map (fun d => d.parameters.length) = some 3 := by decide +kernel
noncomputable def F_L_measure (a0 : Nat) (u1 : Int32) (u2 : Int32) (w : FW) : Option (Int32) :=
  ((if u1 = 0 then some 2 else some 4) : Option (Int32)).bind (fun x1 => (if u1 = 2 then (F_L_ticketOf a0 u2 0 w).bind (fun r15 => some r15) else (F_L_halfOf a0 u2 0 x1 w).bind (fun r7 => (F_L_halfOf a0 u2 1 x1 w).bind (fun r11 => some (r7 + r11)))))
set_option maxHeartbeats 4000000 in
set_option maxRecDepth 100000 in
theorem c_L_measure (l : Launch) (D : va_G) (cy : Nat → ClassId) (a0 : Nat) (u1 : Int32) (u2 : Int32) (w : FW) (r : Int32) (hF : F_L_measure a0 u1 u2 w = some r) : lSpec l D cy yL_measure (.code yL_measure cL_measure 4 (some .int)) { frames := 9, cells := 4, slots := 24, locals := 185 } [.ref a0, .int u1, .int u2] gE0 none w w (some (.int r)) := by
  refine l_begin (by decide +kernel) (Nat.le_of_ble_eq_true rfl) (fun X h hC hEn hL => ?_)
  unfold F_L_measure at hF
  show gAt X 0 0 4 w h gE0 [(0, .ref a0), (1, .int u1), (2, .int u2)] [] 0
  refine g_iload_n hC dL_measure_0 rfl 1 rfl ?_
  obtain ⟨x1, h2, hF⟩ := fb_open hF
  have K4 : ∀ z5, gAt X 0 0 4 w z5 gE0 [(0, .ref a0), (1, .int u1), (2, .int u2)] [.int x1] 9 := by
    intro z5
    refine g_istore_n (L' := [(3, .int x1), (0, .ref a0), (1, .int u1), (2, .int u2)]) hC dL_measure_9 rfl (by decide) rfl ?_
    refine g_iload_n hC dL_measure_10 rfl 2 rfl ?_
    refine g_iconst (v := 2) hC dL_measure_11 (by decide) ?_
    refine g_icmp_ne hC 24 dL_measure_12 (by decide) (fun c6 => ?_) (fun c6 => ?_)
    · replace hF := fi_neg hF c6
      refine g_aload_n hC dL_measure_24 rfl 1 rfl ?_
      refine g_iload_n hC dL_measure_25 rfl 3 rfl ?_
      refine g_iconst (v := 0) hC dL_measure_26 (by decide) ?_
      refine g_iload_n hC dL_measure_27 rfl 0 rfl ?_
      obtain ⟨r7, h8, hF⟩ := fb_open hF
      refine g_callLWk hC hL [.ref a0, .int u2, .int 0, .int x1] (c_L_halfOf l D cy a0 u2 0 x1 w r7 h8) (Or.inl rfl) (fun _ _ h => nomatch h) q_315 q_72 q_313 q_314 h9_L_halfOf ⟨Nat.le_of_ble_eq_true rfl, Nat.le_of_ble_eq_true rfl⟩ 2 12 rfl rfl ⟨Nat.le_of_ble_eq_true rfl, Nat.le_of_ble_eq_true rfl⟩ (Nat.le_of_ble_eq_true rfl) rfl dL_measure_28 (fun z10 _ e9 => ?_)
      show gAt X 2 12 4 w z10 gE0 [(3, .int x1), (0, .ref a0), (1, .int u1), (2, .int u2)] [.int r7] 31
      refine g_aload_n hC dL_measure_31 rfl 1 rfl ?_
      refine g_iload_n hC dL_measure_32 rfl 3 rfl ?_
      refine g_iconst (v := 1) hC dL_measure_33 (by decide) ?_
      refine g_iload_n hC dL_measure_34 rfl 0 rfl ?_
      obtain ⟨r11, h12, hF⟩ := fb_open hF
      refine g_callLWk hC hL [.ref a0, .int u2, .int 1, .int x1] (c_L_halfOf l D cy a0 u2 1 x1 w r11 h12) (Or.inl rfl) (fun _ _ h => nomatch h) q_315 q_72 q_313 q_314 h9_L_halfOf ⟨Nat.le_of_ble_eq_true rfl, Nat.le_of_ble_eq_true rfl⟩ 2 12 rfl rfl ⟨Nat.le_of_ble_eq_true rfl, Nat.le_of_ble_eq_true rfl⟩ (Nat.le_of_ble_eq_true rfl) rfl dL_measure_35 (fun z14 _ e13 => ?_)
      show gAt X 4 24 4 w z14 gE0 [(3, .int x1), (0, .ref a0), (1, .int u1), (2, .int u2)] [.int r11, .int r7] 38
      refine g_iadd hC dL_measure_38 ?_
      obtain rfl := Option.some.inj hF
      refine g_widen (k' := 4) (s' := 24) (by omega) (by omega) ?_
      exact g_iret hC hEn (fSm.rf w) dL_measure_39
    · replace hF := fi_pos hF c6
      refine g_aload_n hC dL_measure_15 rfl 1 rfl ?_
      refine g_iload_n hC dL_measure_16 rfl 3 rfl ?_
      refine g_iconst (v := 0) hC dL_measure_17 (by decide) ?_
      obtain ⟨r15, h16, hF⟩ := fb_open hF
      refine g_callLWk hC hL [.ref a0, .int u2, .int 0] (c_L_ticketOf l D cy a0 u2 0 w r15 h16) (Or.inl rfl) (fun _ _ h => nomatch h) q_1191 q_72 q_1189 q_1190 h9_L_ticketOf ⟨Nat.le_of_ble_eq_true rfl, Nat.le_of_ble_eq_true rfl⟩ 2 12 rfl rfl ⟨Nat.le_of_ble_eq_true rfl, Nat.le_of_ble_eq_true rfl⟩ (Nat.le_of_ble_eq_true rfl) rfl dL_measure_18 (fun z18 _ e17 => ?_)
      show gAt X 2 12 4 w z18 gE0 [(3, .int x1), (0, .ref a0), (1, .int u1), (2, .int u2)] [.int r15] 21
      refine g_goto hC 39 dL_measure_21 (by decide) ?_
      obtain rfl := Option.some.inj hF
      refine g_widen (k' := 4) (s' := 24) (by omega) (by omega) ?_
      exact g_iret hC hEn (fSm.rf w) dL_measure_39
  refine g_if_ne hC 8 dL_measure_1 (by decide) (fun c19 => ?_) (fun c19 => ?_)
  · replace h2 := fi_neg h2 c19
    refine g_iconst (v := 4) hC dL_measure_8 (by decide) ?_
    obtain rfl := Option.some.inj h2
    exact K4 _
  · replace h2 := fi_pos h2 c19
    refine g_iconst (v := 2) hC dL_measure_4 (by decide) ?_
    refine g_goto hC 9 dL_measure_5 (by decide) ?_
    obtain rfl := Option.some.inj h2
    exact K4 _
