theorem dL_sum_0 : decode cL_sum 0 = .ok (.lconst 0, 1) := by decide +kernel
theorem dL_sum_1 : decode cL_sum 1 = .ok (.lstore_n 1, 1) := by decide +kernel
theorem dL_sum_2 : decode cL_sum 2 = .ok (.iconst 0, 1) := by decide +kernel
theorem dL_sum_3 : decode cL_sum 3 = .ok (.istore_n 3, 1) := by decide +kernel
theorem dL_sum_4 : decode cL_sum 4 = .ok (.iload_n 3, 1) := by decide +kernel
theorem dL_sum_5 : decode cL_sum 5 = .ok (.bipush 12, 2) := by decide +kernel
theorem dL_sum_7 : decode cL_sum 7 = .ok (.if_icmp .ge 22, 3) := by decide +kernel
theorem dL_sum_10 : decode cL_sum 10 = .ok (.ldc2_w 300, 3) := by decide +kernel
theorem dL_sum_13 : decode cL_sum 13 = .ok (.lload_n 1, 1) := by decide +kernel
theorem dL_sum_14 : decode cL_sum 14 = .ok (.lmul, 1) := by decide +kernel
theorem dL_sum_15 : decode cL_sum 15 = .ok (.aload_n 0, 1) := by decide +kernel
theorem dL_sum_16 : decode cL_sum 16 = .ok (.iload_n 3, 1) := by decide +kernel
theorem dL_sum_17 : decode cL_sum 17 = .ok (.invokestatic 189, 3) := by decide +kernel
theorem dL_sum_20 : decode cL_sum 20 = .ok (.i2l, 1) := by decide +kernel
theorem dL_sum_21 : decode cL_sum 21 = .ok (.ladd, 1) := by decide +kernel
theorem dL_sum_22 : decode cL_sum 22 = .ok (.lstore_n 1, 1) := by decide +kernel
theorem dL_sum_23 : decode cL_sum 23 = .ok (.iinc 3 1, 3) := by decide +kernel
theorem dL_sum_26 : decode cL_sum 26 = .ok (.goto (-22), 3) := by decide +kernel
theorem dL_sum_29 : decode cL_sum 29 = .ok (.iconst 0, 1) := by decide +kernel
theorem dL_sum_30 : decode cL_sum 30 = .ok (.istore_n 3, 1) := by decide +kernel
theorem dL_sum_31 : decode cL_sum 31 = .ok (.iload_n 3, 1) := by decide +kernel
theorem dL_sum_32 : decode cL_sum 32 = .ok (.aload_n 0, 1) := by decide +kernel
theorem dL_sum_33 : decode cL_sum 33 = .ok (.iconst 0, 1) := by decide +kernel
theorem dL_sum_34 : decode cL_sum 34 = .ok (.invokestatic 189, 3) := by decide +kernel
theorem dL_sum_37 : decode cL_sum 37 = .ok (.if_icmp .ge 105, 3) := by decide +kernel
theorem dL_sum_40 : decode cL_sum 40 = .ok (.iconst 0, 1) := by decide +kernel
theorem dL_sum_41 : decode cL_sum 41 = .ok (.istore 4, 2) := by decide +kernel
theorem dL_sum_43 : decode cL_sum 43 = .ok (.iload 4, 2) := by decide +kernel
theorem dL_sum_45 : decode cL_sum 45 = .ok (.bipush 7, 2) := by decide +kernel
theorem dL_sum_47 : decode cL_sum 47 = .ok (.if_icmp .ge 54, 3) := by decide +kernel
theorem dL_sum_50 : decode cL_sum 50 = .ok (.ldc2_w 300, 3) := by decide +kernel
theorem dL_sum_53 : decode cL_sum 53 = .ok (.lload_n 1, 1) := by decide +kernel
theorem dL_sum_54 : decode cL_sum 54 = .ok (.lmul, 1) := by decide +kernel
theorem dL_sum_55 : decode cL_sum 55 = .ok (.aload_n 0, 1) := by decide +kernel
theorem dL_sum_56 : decode cL_sum 56 = .ok (.iload_n 3, 1) := by decide +kernel
theorem dL_sum_57 : decode cL_sum 57 = .ok (.iload 4, 2) := by decide +kernel
theorem dL_sum_59 : decode cL_sum 59 = .ok (.invokestatic 302, 3) := by decide +kernel
theorem dL_sum_62 : decode cL_sum 62 = .ok (.i2l, 1) := by decide +kernel
theorem dL_sum_63 : decode cL_sum 63 = .ok (.ladd, 1) := by decide +kernel
theorem dL_sum_64 : decode cL_sum 64 = .ok (.lstore_n 1, 1) := by decide +kernel
theorem dL_sum_65 : decode cL_sum 65 = .ok (.ldc2_w 300, 3) := by decide +kernel
theorem dL_sum_68 : decode cL_sum 68 = .ok (.lload_n 1, 1) := by decide +kernel
theorem dL_sum_69 : decode cL_sum 69 = .ok (.lmul, 1) := by decide +kernel
theorem dL_sum_70 : decode cL_sum 70 = .ok (.ldc2_w 304, 3) := by decide +kernel
theorem dL_sum_73 : decode cL_sum 73 = .ok (.aload_n 0, 1) := by decide +kernel
theorem dL_sum_74 : decode cL_sum 74 = .ok (.iload_n 3, 1) := by decide +kernel
theorem dL_sum_75 : decode cL_sum 75 = .ok (.iconst 0, 1) := by decide +kernel
theorem dL_sum_76 : decode cL_sum 76 = .ok (.iload 4, 2) := by decide +kernel
theorem dL_sum_78 : decode cL_sum 78 = .ok (.invokestatic 205, 3) := by decide +kernel
theorem dL_sum_81 : decode cL_sum 81 = .ok (.i2l, 1) := by decide +kernel
theorem dL_sum_82 : decode cL_sum 82 = .ok (.lmul, 1) := by decide +kernel
theorem dL_sum_83 : decode cL_sum 83 = .ok (.ladd, 1) := by decide +kernel
theorem dL_sum_84 : decode cL_sum 84 = .ok (.aload_n 0, 1) := by decide +kernel
theorem dL_sum_85 : decode cL_sum 85 = .ok (.iload_n 3, 1) := by decide +kernel
theorem dL_sum_86 : decode cL_sum 86 = .ok (.iconst 1, 1) := by decide +kernel
theorem dL_sum_87 : decode cL_sum 87 = .ok (.iload 4, 2) := by decide +kernel
theorem dL_sum_89 : decode cL_sum 89 = .ok (.invokestatic 205, 3) := by decide +kernel
theorem dL_sum_92 : decode cL_sum 92 = .ok (.i2l, 1) := by decide +kernel
theorem dL_sum_93 : decode cL_sum 93 = .ok (.ladd, 1) := by decide +kernel
theorem dL_sum_94 : decode cL_sum 94 = .ok (.lstore_n 1, 1) := by decide +kernel
theorem dL_sum_95 : decode cL_sum 95 = .ok (.iinc 4 1, 3) := by decide +kernel
theorem dL_sum_98 : decode cL_sum 98 = .ok (.goto (-55), 3) := by decide +kernel
theorem dL_sum_101 : decode cL_sum 101 = .ok (.iconst 0, 1) := by decide +kernel
theorem dL_sum_102 : decode cL_sum 102 = .ok (.istore 4, 2) := by decide +kernel
theorem dL_sum_104 : decode cL_sum 104 = .ok (.iload 4, 2) := by decide +kernel
theorem dL_sum_106 : decode cL_sum 106 = .ok (.aload_n 0, 1) := by decide +kernel
theorem dL_sum_107 : decode cL_sum 107 = .ok (.iload_n 3, 1) := by decide +kernel
theorem dL_sum_108 : decode cL_sum 108 = .ok (.iconst 0, 1) := by decide +kernel
theorem dL_sum_109 : decode cL_sum 109 = .ok (.invokestatic 302, 3) := by decide +kernel
theorem dL_sum_112 : decode cL_sum 112 = .ok (.if_icmp .ge 24, 3) := by decide +kernel
theorem dL_sum_115 : decode cL_sum 115 = .ok (.ldc2_w 300, 3) := by decide +kernel
theorem dL_sum_118 : decode cL_sum 118 = .ok (.lload_n 1, 1) := by decide +kernel
theorem dL_sum_119 : decode cL_sum 119 = .ok (.lmul, 1) := by decide +kernel
theorem dL_sum_120 : decode cL_sum 120 = .ok (.aload_n 0, 1) := by decide +kernel
theorem dL_sum_121 : decode cL_sum 121 = .ok (.iload_n 3, 1) := by decide +kernel
theorem dL_sum_122 : decode cL_sum 122 = .ok (.iload 4, 2) := by decide +kernel
theorem dL_sum_124 : decode cL_sum 124 = .ok (.invokestatic 306, 3) := by decide +kernel
theorem dL_sum_127 : decode cL_sum 127 = .ok (.i2l, 1) := by decide +kernel
theorem dL_sum_128 : decode cL_sum 128 = .ok (.ladd, 1) := by decide +kernel
theorem dL_sum_129 : decode cL_sum 129 = .ok (.lstore_n 1, 1) := by decide +kernel
theorem dL_sum_130 : decode cL_sum 130 = .ok (.iinc 4 1, 3) := by decide +kernel
theorem dL_sum_133 : decode cL_sum 133 = .ok (.goto (-29), 3) := by decide +kernel
theorem dL_sum_136 : decode cL_sum 136 = .ok (.iinc 3 1, 3) := by decide +kernel
theorem dL_sum_139 : decode cL_sum 139 = .ok (.goto (-108), 3) := by decide +kernel
theorem dL_sum_142 : decode cL_sum 142 = .ok (.lload_n 1, 1) := by decide +kernel
theorem dL_sum_143 : decode cL_sum 143 = .ok (.lreturn, 1) := by decide +kernel
theorem h9_L_sum : yL_sum.cls ≠ "java/lang/invoke/MethodHandle" ∧ yL_sum.cls ≠ "java/lang/invoke/VarHandle" ∧ (parseMethodDescriptor yL_sum.desc).map (fun d => d.parameters.length) = some 1 := by decide +kernel
noncomputable def F_L_sum (a0 : Nat) (w : FW) : Option (Int64) :=
  (fLoopB (σ := Int64 × Int32) (ρ := Int64) (fun s1 => (if 12 ≤ s1.2 then some (.inr s1.1) else (F_L_account a0 s1.2 w).bind (fun r15 => some (.inl ((((31 : Int64) * s1.1) + (Int32.toInt64 r15)), (s1.2 + 1)))))) 13 (0, 0)).bind (fun x7 => (fLoopB (σ := Int64 × Int32) (ρ := Int64) (fun s19 => (F_L_account a0 0 w).bind (fun r32 => (if r32 ≤ s19.2 then some (.inr s19.1) else (fLoopB (σ := Int64 × Int32) (ρ := Int64) (fun s37 => (if 7 ≤ s37.2 then some (.inr s37.1) else (F_L_ticketOf a0 s19.2 s37.2 w).bind (fun r51 => (F_L_halfOf a0 s19.2 0 s37.2 w).bind (fun r55 => (F_L_halfOf a0 s19.2 1 s37.2 w).bind (fun r59 => some (.inl (((((31 : Int64) * (((31 : Int64) * s37.1) + (Int32.toInt64 r51))) + ((7 : Int64) * (Int32.toInt64 r55))) + (Int32.toInt64 r59)), (s37.2 + 1)))))))) 8 (s19.1, 0)).bind (fun x43 => (fLoopB (σ := Int64 × Int32) (ρ := Int64) (fun s63 => (F_L_ticketOf a0 s19.2 0 w).bind (fun r76 => (if r76 ≤ s63.2 then some (.inr s63.1) else (F_L_wordAt a0 s19.2 s63.2 w).bind (fun r81 => some (.inl ((((31 : Int64) * s63.1) + (Int32.toInt64 r81)), (s63.2 + 1))))))) 7 (x43, 0)).bind (fun x69 => some (.inl (x69, (s19.2 + 1)))))))) 9 (x7, 0)).bind (fun x25 => some x25))
set_option maxHeartbeats 4000000 in
set_option maxRecDepth 100000 in
theorem c_L_sum (l : Launch) (D : va_G) (cy : Nat → ClassId) (a0 : Nat) (w : FW) (r : Int64) (hF : F_L_sum a0 w = some r) : lSpec l D cy yL_sum (.code yL_sum cL_sum 5 (some .long)) { frames := 9, cells := 787, slots := 4722, locals := 185 } [.ref a0] gE0 none w w (some (.long r)) := by
  refine l_begin (by decide +kernel) (Nat.le_of_ble_eq_true rfl) (fun X h hC hEn hL => ?_)
  unfold F_L_sum at hF
  show gAt X 0 0 5 w h gE0 [(0, .ref a0)] [] 0
  refine g_lconst (v := 0) hC dL_sum_0 (by decide) ?_
  refine g_lstore_n (L' := [(1, .long 0), (0, .ref a0)]) hC dL_sum_1 rfl (by decide) rfl ?_
  refine g_iconst (v := 0) hC dL_sum_2 (by decide) ?_
  refine g_istore_n (L' := [(3, .int 0), (1, .long 0), (0, .ref a0)]) hC dL_sum_3 rfl (by decide) rfl ?_
  obtain ⟨x7, h8, hF⟩ := fb_open hF
  have K9 : ∀ z13, gAt X 13 78 5 w z13 gE0 [(0, .ref a0), (1, .long x7)] [] 29 := by
    intro z13
    refine g_iconst (v := 0) hC dL_sum_29 (by decide) ?_
    refine g_istore_n (L' := [(3, .int 0), (0, .ref a0), (1, .long x7)]) hC dL_sum_30 rfl (by decide) rfl ?_
    obtain ⟨x25, h26, hF⟩ := fb_open hF
    have K27 : ∀ z31, gAt X 706 4236 5 w z31 gE0 [(1, .long x25)] [] 142 := by
      intro z31
      refine g_lload_n hC dL_sum_142 rfl 0 rfl ?_
      obtain rfl := Option.some.inj hF
      refine g_widen (k' := 787) (s' := 4722) (by omega) (by omega) ?_
      exact g_lret hC hEn (fSm.rf w) dL_sum_143
    refine g_sub (L' := [(0, .ref a0), (1, .long x7), (3, .int 0)]) [1, 2, 0] rfl ?_
    refine g_widen (k' := ((9 - 9) * 77 + 13)) (s' := ((9 - 9) * 462 + 78)) (by omega) (by omega) ?_
    refine fLoopB_use h26 (fun (n28 : Nat) (s19 : Int64 × Int32) => n28 ≤ 9 → ∀ z30 : Nat, gAt X ((9 - n28) * 77 + 13) ((9 - n28) * 462 + 78) 5 w z30 gE0 [(0, .ref a0), (1, .long s19.1), (3, .int s19.2)] [] 31) (fun n28 s19 y24 h20 go21 ou22 => ?_) (Nat.le_refl _) _
    intro l29 z30
    refine g_iload_n hC dL_sum_31 rfl 2 rfl ?_
    refine g_aload_n hC dL_sum_32 rfl 0 rfl ?_
    refine g_iconst (v := 0) hC dL_sum_33 (by decide) ?_
    obtain ⟨r32, h33, h20⟩ := fb_open h20
    refine g_callLW hC hL [.ref a0, .int 0] (c_L_account l D cy a0 0 w r32 h33) (Or.inl rfl) (fun _ _ h => nomatch h) q_597 q_72 q_595 q_596 h9_L_account ⟨Nat.le_of_ble_eq_true rfl, Nat.le_of_ble_eq_true rfl⟩ ⟨show ((9 - (n28 + 1)) * 77 + 13) + 1 ≤ 787 from by omega, show ((9 - (n28 + 1)) * 462 + 78) + 6 ≤ 4722 from by omega⟩ (Nat.le_of_ble_eq_true rfl) rfl dL_sum_34 (fun z35 _ e34 => ?_)
    refine g_cs ((9 - (n28 + 1)) * 77 + 14) ((9 - (n28 + 1)) * 462 + 84) (show ((9 - (n28 + 1)) * 77 + 14) = ((9 - (n28 + 1)) * 77 + 13) + 1 from by omega) (show ((9 - (n28 + 1)) * 462 + 84) = ((9 - (n28 + 1)) * 462 + 78) + 6 from by omega) ?_
    show gAt X ((9 - (n28 + 1)) * 77 + 14) ((9 - (n28 + 1)) * 462 + 84) 5 w z35 gE0 [(0, .ref a0), (1, .long s19.1), (3, .int s19.2)] [.int r32, .int s19.2] 37
    refine g_icmp_ge hC 142 dL_sum_37 (by decide) (fun c36 => ?_) (fun c36 => ?_)
    · replace h20 := fi_pos h20 c36
      obtain rfl := Option.some.inj h20
      obtain rfl := ou22 _ rfl
      refine g_sub (L' := [(1, .long s19.1)]) [1] rfl ?_
      refine g_widen (k' := 706) (s' := 4236) (by omega) (by omega) ?_
      exact K27 _
    · replace h20 := fi_neg h20 c36
      refine g_iconst (v := 0) hC dL_sum_40 (by decide) ?_
      refine g_istore (L' := [(4, .int 0), (0, .ref a0), (1, .long s19.1), (3, .int s19.2)]) hC dL_sum_41 (by decide) rfl ?_
      obtain ⟨x43, h44, h20⟩ := fb_open h20
      have K45 : ∀ z49, gAt X ((9 - (n28 + 1)) * 77 + 62) ((9 - (n28 + 1)) * 462 + 372) 5 w z49 gE0 [(0, .ref a0), (1, .long x43), (3, .int s19.2)] [] 101 := by
        intro z49
        refine g_iconst (v := 0) hC dL_sum_101 (by decide) ?_
        refine g_istore (L' := [(4, .int 0), (0, .ref a0), (1, .long x43), (3, .int s19.2)]) hC dL_sum_102 (by decide) rfl ?_
        obtain ⟨x69, h70, h20⟩ := fb_open h20
        have K71 : ∀ z75, gAt X ((9 - (n28 + 1)) * 77 + 90) ((9 - (n28 + 1)) * 462 + 540) 5 w z75 gE0 [(0, .ref a0), (1, .long x69), (3, .int s19.2)] [] 136 := by
          intro z75
          refine g_iinc (L' := [(3, .int (s19.2 + 1)), (0, .ref a0), (1, .long x69)]) hC dL_sum_136 2 rfl rfl (by decide) rfl ?_
          refine g_goto hC 31 dL_sum_139 (by decide) ?_
          obtain rfl := Option.some.inj h20
          refine g_sub (L' := [(0, .ref a0), (1, .long x69), (3, .int (s19.2 + 1))]) [1, 2, 0] rfl ?_
          refine g_widen (k' := ((9 - n28) * 77 + 13)) (s' := ((9 - n28) * 462 + 78)) (by omega) (by omega) ?_
          exact go21 (x69, (s19.2 + 1)) rfl (by omega) _
        refine g_sub (L' := [(0, .ref a0), (1, .long x43), (3, .int s19.2), (4, .int 0)]) [1, 2, 3, 0] rfl ?_
        refine g_widen (k' := ((9 - (n28 + 1)) * 77 + (7 - 7) * 4 + 62)) (s' := ((9 - (n28 + 1)) * 462 + (7 - 7) * 24 + 372)) (by omega) (by omega) ?_
        refine fLoopB_use h70 (fun (n72 : Nat) (s63 : Int64 × Int32) => n72 ≤ 7 → ∀ z74 : Nat, gAt X ((9 - (n28 + 1)) * 77 + (7 - n72) * 4 + 62) ((9 - (n28 + 1)) * 462 + (7 - n72) * 24 + 372) 5 w z74 gE0 [(0, .ref a0), (1, .long s63.1), (3, .int s19.2), (4, .int s63.2)] [] 104) (fun n72 s63 y68 h64 go65 ou66 => ?_) (Nat.le_refl _) _
        intro l73 z74
        refine g_iload hC dL_sum_104 3 rfl ?_
        refine g_aload_n hC dL_sum_106 rfl 0 rfl ?_
        refine g_iload_n hC dL_sum_107 rfl 2 rfl ?_
        refine g_iconst (v := 0) hC dL_sum_108 (by decide) ?_
        obtain ⟨r76, h77, h64⟩ := fb_open h64
        refine g_callLW hC hL [.ref a0, .int s19.2, .int 0] (c_L_ticketOf l D cy a0 s19.2 0 w r76 h77) (Or.inl rfl) (fun _ _ h => nomatch h) q_1191 q_72 q_1189 q_1190 h9_L_ticketOf ⟨Nat.le_of_ble_eq_true rfl, Nat.le_of_ble_eq_true rfl⟩ ⟨show ((9 - (n28 + 1)) * 77 + (7 - (n72 + 1)) * 4 + 62) + 2 ≤ 787 from by omega, show ((9 - (n28 + 1)) * 462 + (7 - (n72 + 1)) * 24 + 372) + 12 ≤ 4722 from by omega⟩ (Nat.le_of_ble_eq_true rfl) rfl dL_sum_109 (fun z79 _ e78 => ?_)
        refine g_cs ((9 - (n28 + 1)) * 77 + (7 - (n72 + 1)) * 4 + 64) ((9 - (n28 + 1)) * 462 + (7 - (n72 + 1)) * 24 + 384) (show ((9 - (n28 + 1)) * 77 + (7 - (n72 + 1)) * 4 + 64) = ((9 - (n28 + 1)) * 77 + (7 - (n72 + 1)) * 4 + 62) + 2 from by omega) (show ((9 - (n28 + 1)) * 462 + (7 - (n72 + 1)) * 24 + 384) = ((9 - (n28 + 1)) * 462 + (7 - (n72 + 1)) * 24 + 372) + 12 from by omega) ?_
        show gAt X ((9 - (n28 + 1)) * 77 + (7 - (n72 + 1)) * 4 + 64) ((9 - (n28 + 1)) * 462 + (7 - (n72 + 1)) * 24 + 384) 5 w z79 gE0 [(0, .ref a0), (1, .long s63.1), (3, .int s19.2), (4, .int s63.2)] [.int r76, .int s63.2] 112
        refine g_icmp_ge hC 136 dL_sum_112 (by decide) (fun c80 => ?_) (fun c80 => ?_)
        · replace h64 := fi_pos h64 c80
          obtain rfl := Option.some.inj h64
          obtain rfl := ou66 _ rfl
          refine g_sub (L' := [(0, .ref a0), (1, .long s63.1), (3, .int s19.2)]) [0, 1, 2] rfl ?_
          refine g_widen (k' := ((9 - (n28 + 1)) * 77 + 90)) (s' := ((9 - (n28 + 1)) * 462 + 540)) (by omega) (by omega) ?_
          exact K71 _
        · replace h64 := fi_neg h64 c80
          refine g_ldc2l hC q_1188 dL_sum_115 ?_
          refine g_lload_n hC dL_sum_118 rfl 1 rfl ?_
          refine g_lmul hC dL_sum_119 ?_
          refine g_aload_n hC dL_sum_120 rfl 0 rfl ?_
          refine g_iload_n hC dL_sum_121 rfl 2 rfl ?_
          refine g_iload hC dL_sum_122 3 rfl ?_
          obtain ⟨r81, h82, h64⟩ := fb_open h64
          refine g_callLW hC hL [.ref a0, .int s19.2, .int s63.2] (c_L_wordAt l D cy a0 s19.2 s63.2 w r81 h82) (Or.inl rfl) (fun _ _ h => nomatch h) q_1200 q_72 q_1198 q_1199 h9_L_wordAt ⟨Nat.le_of_ble_eq_true rfl, Nat.le_of_ble_eq_true rfl⟩ ⟨show ((9 - (n28 + 1)) * 77 + (7 - (n72 + 1)) * 4 + 64) + 2 ≤ 787 from by omega, show ((9 - (n28 + 1)) * 462 + (7 - (n72 + 1)) * 24 + 384) + 12 ≤ 4722 from by omega⟩ (Nat.le_of_ble_eq_true rfl) rfl dL_sum_124 (fun z84 _ e83 => ?_)
          refine g_cs ((9 - (n28 + 1)) * 77 + (7 - (n72 + 1)) * 4 + 66) ((9 - (n28 + 1)) * 462 + (7 - (n72 + 1)) * 24 + 396) (show ((9 - (n28 + 1)) * 77 + (7 - (n72 + 1)) * 4 + 66) = ((9 - (n28 + 1)) * 77 + (7 - (n72 + 1)) * 4 + 64) + 2 from by omega) (show ((9 - (n28 + 1)) * 462 + (7 - (n72 + 1)) * 24 + 396) = ((9 - (n28 + 1)) * 462 + (7 - (n72 + 1)) * 24 + 384) + 12 from by omega) ?_
          show gAt X ((9 - (n28 + 1)) * 77 + (7 - (n72 + 1)) * 4 + 66) ((9 - (n28 + 1)) * 462 + (7 - (n72 + 1)) * 24 + 396) 5 w z84 gE0 [(0, .ref a0), (1, .long s63.1), (3, .int s19.2), (4, .int s63.2)] [.int r81, .long ((31 : Int64) * s63.1)] 127
          refine g_i2l hC dL_sum_127 ?_
          refine g_ladd hC dL_sum_128 ?_
          refine g_lstore_n (L' := [(1, .long (((31 : Int64) * s63.1) + (Int32.toInt64 r81))), (0, .ref a0), (3, .int s19.2), (4, .int s63.2)]) hC dL_sum_129 rfl (by decide) rfl ?_
          refine g_iinc (L' := [(4, .int (s63.2 + 1)), (1, .long (((31 : Int64) * s63.1) + (Int32.toInt64 r81))), (0, .ref a0), (3, .int s19.2)]) hC dL_sum_130 3 rfl rfl (by decide) rfl ?_
          refine g_goto hC 104 dL_sum_133 (by decide) ?_
          obtain rfl := Option.some.inj h64
          refine g_sub (L' := [(0, .ref a0), (1, .long (((31 : Int64) * s63.1) + (Int32.toInt64 r81))), (3, .int s19.2), (4, .int (s63.2 + 1))]) [2, 1, 3, 0] rfl ?_
          refine g_widen (k' := ((9 - (n28 + 1)) * 77 + (7 - n72) * 4 + 62)) (s' := ((9 - (n28 + 1)) * 462 + (7 - n72) * 24 + 372)) (by omega) (by omega) ?_
          exact go65 ((((31 : Int64) * s63.1) + (Int32.toInt64 r81)), (s63.2 + 1)) rfl (by omega) _
      refine g_sub (L' := [(0, .ref a0), (1, .long s19.1), (3, .int s19.2), (4, .int 0)]) [1, 2, 3, 0] rfl ?_
      refine g_widen (k' := ((9 - (n28 + 1)) * 77 + (8 - 8) * 6 + 14)) (s' := ((9 - (n28 + 1)) * 462 + (8 - 8) * 36 + 84)) (by omega) (by omega) ?_
      refine fLoopB_use h44 (fun (n46 : Nat) (s37 : Int64 × Int32) => n46 ≤ 8 → ∀ z48 : Nat, gAt X ((9 - (n28 + 1)) * 77 + (8 - n46) * 6 + 14) ((9 - (n28 + 1)) * 462 + (8 - n46) * 36 + 84) 5 w z48 gE0 [(0, .ref a0), (1, .long s37.1), (3, .int s19.2), (4, .int s37.2)] [] 43) (fun n46 s37 y42 h38 go39 ou40 => ?_) (Nat.le_refl _) _
      intro l47 z48
      refine g_iload hC dL_sum_43 3 rfl ?_
      refine g_bipush (v := 7) hC dL_sum_45 (by decide) ?_
      refine g_icmp_ge hC 101 dL_sum_47 (by decide) (fun c50 => ?_) (fun c50 => ?_)
      · replace h38 := fi_pos h38 c50
        obtain rfl := Option.some.inj h38
        obtain rfl := ou40 _ rfl
        refine g_sub (L' := [(0, .ref a0), (1, .long s37.1), (3, .int s19.2)]) [0, 1, 2] rfl ?_
        refine g_widen (k' := ((9 - (n28 + 1)) * 77 + 62)) (s' := ((9 - (n28 + 1)) * 462 + 372)) (by omega) (by omega) ?_
        exact K45 _
      · replace h38 := fi_neg h38 c50
        refine g_ldc2l hC q_1188 dL_sum_50 ?_
        refine g_lload_n hC dL_sum_53 rfl 1 rfl ?_
        refine g_lmul hC dL_sum_54 ?_
        refine g_aload_n hC dL_sum_55 rfl 0 rfl ?_
        refine g_iload_n hC dL_sum_56 rfl 2 rfl ?_
        refine g_iload hC dL_sum_57 3 rfl ?_
        obtain ⟨r51, h52, h38⟩ := fb_open h38
        refine g_callLW hC hL [.ref a0, .int s19.2, .int s37.2] (c_L_ticketOf l D cy a0 s19.2 s37.2 w r51 h52) (Or.inl rfl) (fun _ _ h => nomatch h) q_1191 q_72 q_1189 q_1190 h9_L_ticketOf ⟨Nat.le_of_ble_eq_true rfl, Nat.le_of_ble_eq_true rfl⟩ ⟨show ((9 - (n28 + 1)) * 77 + (8 - (n46 + 1)) * 6 + 14) + 2 ≤ 787 from by omega, show ((9 - (n28 + 1)) * 462 + (8 - (n46 + 1)) * 36 + 84) + 12 ≤ 4722 from by omega⟩ (Nat.le_of_ble_eq_true rfl) rfl dL_sum_59 (fun z54 _ e53 => ?_)
        refine g_cs ((9 - (n28 + 1)) * 77 + (8 - (n46 + 1)) * 6 + 16) ((9 - (n28 + 1)) * 462 + (8 - (n46 + 1)) * 36 + 96) (show ((9 - (n28 + 1)) * 77 + (8 - (n46 + 1)) * 6 + 16) = ((9 - (n28 + 1)) * 77 + (8 - (n46 + 1)) * 6 + 14) + 2 from by omega) (show ((9 - (n28 + 1)) * 462 + (8 - (n46 + 1)) * 36 + 96) = ((9 - (n28 + 1)) * 462 + (8 - (n46 + 1)) * 36 + 84) + 12 from by omega) ?_
        show gAt X ((9 - (n28 + 1)) * 77 + (8 - (n46 + 1)) * 6 + 16) ((9 - (n28 + 1)) * 462 + (8 - (n46 + 1)) * 36 + 96) 5 w z54 gE0 [(0, .ref a0), (1, .long s37.1), (3, .int s19.2), (4, .int s37.2)] [.int r51, .long ((31 : Int64) * s37.1)] 62
        refine g_i2l hC dL_sum_62 ?_
        refine g_ladd hC dL_sum_63 ?_
        refine g_lstore_n (L' := [(1, .long (((31 : Int64) * s37.1) + (Int32.toInt64 r51))), (0, .ref a0), (3, .int s19.2), (4, .int s37.2)]) hC dL_sum_64 rfl (by decide) rfl ?_
        refine g_ldc2l hC q_1188 dL_sum_65 ?_
        refine g_lload_n hC dL_sum_68 rfl 0 rfl ?_
        refine g_lmul hC dL_sum_69 ?_
        refine g_ldc2l hC q_1197 dL_sum_70 ?_
        refine g_aload_n hC dL_sum_73 rfl 1 rfl ?_
        refine g_iload_n hC dL_sum_74 rfl 2 rfl ?_
        refine g_iconst (v := 0) hC dL_sum_75 (by decide) ?_
        refine g_iload hC dL_sum_76 3 rfl ?_
        obtain ⟨r55, h56, h38⟩ := fb_open h38
        refine g_callLW hC hL [.ref a0, .int s19.2, .int 0, .int s37.2] (c_L_halfOf l D cy a0 s19.2 0 s37.2 w r55 h56) (Or.inl rfl) (fun _ _ h => nomatch h) q_315 q_72 q_313 q_314 h9_L_halfOf ⟨Nat.le_of_ble_eq_true rfl, Nat.le_of_ble_eq_true rfl⟩ ⟨show ((9 - (n28 + 1)) * 77 + (8 - (n46 + 1)) * 6 + 16) + 2 ≤ 787 from by omega, show ((9 - (n28 + 1)) * 462 + (8 - (n46 + 1)) * 36 + 96) + 12 ≤ 4722 from by omega⟩ (Nat.le_of_ble_eq_true rfl) rfl dL_sum_78 (fun z58 _ e57 => ?_)
        refine g_cs ((9 - (n28 + 1)) * 77 + (8 - (n46 + 1)) * 6 + 18) ((9 - (n28 + 1)) * 462 + (8 - (n46 + 1)) * 36 + 108) (show ((9 - (n28 + 1)) * 77 + (8 - (n46 + 1)) * 6 + 18) = ((9 - (n28 + 1)) * 77 + (8 - (n46 + 1)) * 6 + 16) + 2 from by omega) (show ((9 - (n28 + 1)) * 462 + (8 - (n46 + 1)) * 36 + 108) = ((9 - (n28 + 1)) * 462 + (8 - (n46 + 1)) * 36 + 96) + 12 from by omega) ?_
        show gAt X ((9 - (n28 + 1)) * 77 + (8 - (n46 + 1)) * 6 + 18) ((9 - (n28 + 1)) * 462 + (8 - (n46 + 1)) * 36 + 108) 5 w z58 gE0 [(1, .long (((31 : Int64) * s37.1) + (Int32.toInt64 r51))), (0, .ref a0), (3, .int s19.2), (4, .int s37.2)] [.int r55, .long (7 : Int64), .long ((31 : Int64) * (((31 : Int64) * s37.1) + (Int32.toInt64 r51)))] 81
        refine g_i2l hC dL_sum_81 ?_
        refine g_lmul hC dL_sum_82 ?_
        refine g_ladd hC dL_sum_83 ?_
        refine g_aload_n hC dL_sum_84 rfl 1 rfl ?_
        refine g_iload_n hC dL_sum_85 rfl 2 rfl ?_
        refine g_iconst (v := 1) hC dL_sum_86 (by decide) ?_
        refine g_iload hC dL_sum_87 3 rfl ?_
        obtain ⟨r59, h60, h38⟩ := fb_open h38
        refine g_callLW hC hL [.ref a0, .int s19.2, .int 1, .int s37.2] (c_L_halfOf l D cy a0 s19.2 1 s37.2 w r59 h60) (Or.inl rfl) (fun _ _ h => nomatch h) q_315 q_72 q_313 q_314 h9_L_halfOf ⟨Nat.le_of_ble_eq_true rfl, Nat.le_of_ble_eq_true rfl⟩ ⟨show ((9 - (n28 + 1)) * 77 + (8 - (n46 + 1)) * 6 + 18) + 2 ≤ 787 from by omega, show ((9 - (n28 + 1)) * 462 + (8 - (n46 + 1)) * 36 + 108) + 12 ≤ 4722 from by omega⟩ (Nat.le_of_ble_eq_true rfl) rfl dL_sum_89 (fun z62 _ e61 => ?_)
        refine g_cs ((9 - (n28 + 1)) * 77 + (8 - (n46 + 1)) * 6 + 20) ((9 - (n28 + 1)) * 462 + (8 - (n46 + 1)) * 36 + 120) (show ((9 - (n28 + 1)) * 77 + (8 - (n46 + 1)) * 6 + 20) = ((9 - (n28 + 1)) * 77 + (8 - (n46 + 1)) * 6 + 18) + 2 from by omega) (show ((9 - (n28 + 1)) * 462 + (8 - (n46 + 1)) * 36 + 120) = ((9 - (n28 + 1)) * 462 + (8 - (n46 + 1)) * 36 + 108) + 12 from by omega) ?_
        show gAt X ((9 - (n28 + 1)) * 77 + (8 - (n46 + 1)) * 6 + 20) ((9 - (n28 + 1)) * 462 + (8 - (n46 + 1)) * 36 + 120) 5 w z62 gE0 [(1, .long (((31 : Int64) * s37.1) + (Int32.toInt64 r51))), (0, .ref a0), (3, .int s19.2), (4, .int s37.2)] [.int r59, .long (((31 : Int64) * (((31 : Int64) * s37.1) + (Int32.toInt64 r51))) + ((7 : Int64) * (Int32.toInt64 r55)))] 92
        refine g_i2l hC dL_sum_92 ?_
        refine g_ladd hC dL_sum_93 ?_
        refine g_lstore_n (L' := [(1, .long ((((31 : Int64) * (((31 : Int64) * s37.1) + (Int32.toInt64 r51))) + ((7 : Int64) * (Int32.toInt64 r55))) + (Int32.toInt64 r59))), (0, .ref a0), (3, .int s19.2), (4, .int s37.2)]) hC dL_sum_94 rfl (by decide) rfl ?_
        refine g_iinc (L' := [(4, .int (s37.2 + 1)), (1, .long ((((31 : Int64) * (((31 : Int64) * s37.1) + (Int32.toInt64 r51))) + ((7 : Int64) * (Int32.toInt64 r55))) + (Int32.toInt64 r59))), (0, .ref a0), (3, .int s19.2)]) hC dL_sum_95 3 rfl rfl (by decide) rfl ?_
        refine g_goto hC 43 dL_sum_98 (by decide) ?_
        obtain rfl := Option.some.inj h38
        refine g_sub (L' := [(0, .ref a0), (1, .long ((((31 : Int64) * (((31 : Int64) * s37.1) + (Int32.toInt64 r51))) + ((7 : Int64) * (Int32.toInt64 r55))) + (Int32.toInt64 r59))), (3, .int s19.2), (4, .int (s37.2 + 1))]) [2, 1, 3, 0] rfl ?_
        refine g_widen (k' := ((9 - (n28 + 1)) * 77 + (8 - n46) * 6 + 14)) (s' := ((9 - (n28 + 1)) * 462 + (8 - n46) * 36 + 84)) (by omega) (by omega) ?_
        exact go39 (((((31 : Int64) * (((31 : Int64) * s37.1) + (Int32.toInt64 r51))) + ((7 : Int64) * (Int32.toInt64 r55))) + (Int32.toInt64 r59)), (s37.2 + 1)) rfl (by omega) _
  refine g_sub (L' := [(0, .ref a0), (1, .long 0), (3, .int 0)]) [2, 1, 0] rfl ?_
  refine g_widen (k' := ((13 - 13) * 1 + 0)) (s' := ((13 - 13) * 6 + 0)) (by omega) (by omega) ?_
  refine fLoopB_use h8 (fun (n10 : Nat) (s1 : Int64 × Int32) => n10 ≤ 13 → ∀ z12 : Nat, gAt X ((13 - n10) * 1 + 0) ((13 - n10) * 6 + 0) 5 w z12 gE0 [(0, .ref a0), (1, .long s1.1), (3, .int s1.2)] [] 4) (fun n10 s1 y6 h2 go3 ou4 => ?_) (Nat.le_refl _) _
  intro l11 z12
  refine g_iload_n hC dL_sum_4 rfl 2 rfl ?_
  refine g_bipush (v := 12) hC dL_sum_5 (by decide) ?_
  refine g_icmp_ge hC 29 dL_sum_7 (by decide) (fun c14 => ?_) (fun c14 => ?_)
  · replace h2 := fi_pos h2 c14
    obtain rfl := Option.some.inj h2
    obtain rfl := ou4 _ rfl
    refine g_sub (L' := [(0, .ref a0), (1, .long s1.1)]) [0, 1] rfl ?_
    refine g_widen (k' := 13) (s' := 78) (by omega) (by omega) ?_
    exact K9 _
  · replace h2 := fi_neg h2 c14
    refine g_ldc2l hC q_1188 dL_sum_10 ?_
    refine g_lload_n hC dL_sum_13 rfl 1 rfl ?_
    refine g_lmul hC dL_sum_14 ?_
    refine g_aload_n hC dL_sum_15 rfl 0 rfl ?_
    refine g_iload_n hC dL_sum_16 rfl 2 rfl ?_
    obtain ⟨r15, h16, h2⟩ := fb_open h2
    refine g_callLW hC hL [.ref a0, .int s1.2] (c_L_account l D cy a0 s1.2 w r15 h16) (Or.inl rfl) (fun _ _ h => nomatch h) q_597 q_72 q_595 q_596 h9_L_account ⟨Nat.le_of_ble_eq_true rfl, Nat.le_of_ble_eq_true rfl⟩ ⟨show ((13 - (n10 + 1)) * 1 + 0) + 1 ≤ 787 from by omega, show ((13 - (n10 + 1)) * 6 + 0) + 6 ≤ 4722 from by omega⟩ (Nat.le_of_ble_eq_true rfl) rfl dL_sum_17 (fun z18 _ e17 => ?_)
    refine g_cs ((13 - (n10 + 1)) * 1 + 1) ((13 - (n10 + 1)) * 6 + 6) (show ((13 - (n10 + 1)) * 1 + 1) = ((13 - (n10 + 1)) * 1 + 0) + 1 from by omega) (show ((13 - (n10 + 1)) * 6 + 6) = ((13 - (n10 + 1)) * 6 + 0) + 6 from by omega) ?_
    show gAt X ((13 - (n10 + 1)) * 1 + 1) ((13 - (n10 + 1)) * 6 + 6) 5 w z18 gE0 [(0, .ref a0), (1, .long s1.1), (3, .int s1.2)] [.int r15, .long ((31 : Int64) * s1.1)] 20
    refine g_i2l hC dL_sum_20 ?_
    refine g_ladd hC dL_sum_21 ?_
    refine g_lstore_n (L' := [(1, .long (((31 : Int64) * s1.1) + (Int32.toInt64 r15))), (0, .ref a0), (3, .int s1.2)]) hC dL_sum_22 rfl (by decide) rfl ?_
    refine g_iinc (L' := [(3, .int (s1.2 + 1)), (1, .long (((31 : Int64) * s1.1) + (Int32.toInt64 r15))), (0, .ref a0)]) hC dL_sum_23 2 rfl rfl (by decide) rfl ?_
    refine g_goto hC 4 dL_sum_26 (by decide) ?_
    obtain rfl := Option.some.inj h2
    refine g_sub (L' := [(0, .ref a0), (1, .long (((31 : Int64) * s1.1) + (Int32.toInt64 r15))), (3, .int (s1.2 + 1))]) [2, 1, 0] rfl ?_
    refine g_widen (k' := ((13 - n10) * 1 + 0)) (s' := ((13 - n10) * 6 + 0)) (by omega) (by omega) ?_
    exact go3 ((((31 : Int64) * s1.1) + (Int32.toInt64 r15)), (s1.2 + 1)) rfl (by omega) _
theorem dL_measure_0 : decode cL_measure 0 = .ok (.iload_n 1, 1) := by decide +kernel
theorem dL_measure_1 : decode cL_measure 1 = .ok (.ifCond .ne 7, 3) := by decide +kernel
theorem dL_measure_4 : decode cL_measure 4 = .ok (.iconst 2, 1) := by decide +kernel
theorem dL_measure_5 : decode cL_measure 5 = .ok (.goto 4, 3) := by decide +kernel
theorem dL_measure_8 : decode cL_measure 8 = .ok (.iconst 4, 1) := by decide +kernel
theorem dL_measure_9 : decode cL_measure 9 = .ok (.istore_n 3, 1) := by decide +kernel
theorem dL_measure_10 : decode cL_measure 10 = .ok (.iload_n 1, 1) := by decide +kernel
theorem dL_measure_11 : decode cL_measure 11 = .ok (.iconst 2, 1) := by decide +kernel
theorem dL_measure_12 : decode cL_measure 12 = .ok (.if_icmp .ne 12, 3) := by decide +kernel
theorem dL_measure_15 : decode cL_measure 15 = .ok (.aload_n 0, 1) := by decide +kernel
theorem dL_measure_16 : decode cL_measure 16 = .ok (.iload_n 2, 1) := by decide +kernel
theorem dL_measure_17 : decode cL_measure 17 = .ok (.iconst 0, 1) := by decide +kernel
theorem dL_measure_18 : decode cL_measure 18 = .ok (.invokestatic 302, 3) := by decide +kernel
theorem dL_measure_21 : decode cL_measure 21 = .ok (.goto 18, 3) := by decide +kernel
theorem dL_measure_24 : decode cL_measure 24 = .ok (.aload_n 0, 1) := by decide +kernel
theorem dL_measure_25 : decode cL_measure 25 = .ok (.iload_n 2, 1) := by decide +kernel
theorem dL_measure_26 : decode cL_measure 26 = .ok (.iconst 0, 1) := by decide +kernel
theorem dL_measure_27 : decode cL_measure 27 = .ok (.iload_n 3, 1) := by decide +kernel
theorem dL_measure_28 : decode cL_measure 28 = .ok (.invokestatic 205, 3) := by decide +kernel
theorem dL_measure_31 : decode cL_measure 31 = .ok (.aload_n 0, 1) := by decide +kernel
theorem dL_measure_32 : decode cL_measure 32 = .ok (.iload_n 2, 1) := by decide +kernel
theorem dL_measure_33 : decode cL_measure 33 = .ok (.iconst 1, 1) := by decide +kernel
theorem dL_measure_34 : decode cL_measure 34 = .ok (.iload_n 3, 1) := by decide +kernel
theorem dL_measure_35 : decode cL_measure 35 = .ok (.invokestatic 205, 3) := by decide +kernel
theorem dL_measure_38 : decode cL_measure 38 = .ok (.iadd, 1) := by decide +kernel
theorem dL_measure_39 : decode cL_measure 39 = .ok (.ireturn, 1) := by decide +kernel
theorem h9_L_measure : yL_measure.cls ≠ "java/lang/invoke/MethodHandle" ∧ yL_measure.cls ≠ "java/lang/invoke/VarHandle" ∧ (parseMethodDescriptor yL_measure.desc).map (fun d => d.parameters.length) = some 3 := by decide +kernel
noncomputable def F_L_measure (a0 : Nat) (u1 : Int32) (u2 : Int32) (w : FW) : Option (Int32) :=
  ((if u1 = 0 then some 2 else some 4) : Option (Int32)).bind (fun x1 => (if u1 = 2 then (F_L_ticketOf a0 u2 0 w).bind (fun r15 => some r15) else (F_L_halfOf a0 u2 0 x1 w).bind (fun r7 => (F_L_halfOf a0 u2 1 x1 w).bind (fun r11 => some (r7 + r11)))))
set_option maxHeartbeats 4000000 in
set_option maxRecDepth 100000 in
theorem c_L_measure (l : Launch) (D : va_G) (cy : Nat → ClassId) (a0 : Nat) (u1 : Int32) (u2 : Int32) (w : FW) (r : Int32) (hF : F_L_measure a0 u1 u2 w = some r) : lSpec l D cy yL_measure (.code yL_measure cL_measure 4 (some .int)) { frames := 9, cells := 4, slots := 24, locals := 185 } [.ref a0, .int u1, .int u2] gE0 none w w (some (.int r)) := by
  refine l_begin (by decide +kernel) (Nat.le_of_ble_eq_true rfl) (fun X h hC hEn hL => ?_)
  unfold F_L_measure at hF
  show gAt X 0 0 4 w h gE0 [(0, .ref a0), (1, .int u1), (2, .int u2)] [] 0
  refine g_iload_n hC dL_measure_0 rfl 1 rfl ?_
  obtain ⟨x1, h2, hF⟩ := fb_open hF
  have K4 : ∀ z5, gAt X 0 0 4 w z5 gE0 [(0, .ref a0), (1, .int u1), (2, .int u2)] [.int x1] 9 := by
    intro z5
    refine g_istore_n (L' := [(3, .int x1), (0, .ref a0), (1, .int u1), (2, .int u2)]) hC dL_measure_9 rfl (by decide) rfl ?_
    refine g_iload_n hC dL_measure_10 rfl 2 rfl ?_
    refine g_iconst (v := 2) hC dL_measure_11 (by decide) ?_
    refine g_icmp_ne hC 24 dL_measure_12 (by decide) (fun c6 => ?_) (fun c6 => ?_)
    · replace hF := fi_neg hF c6
      refine g_aload_n hC dL_measure_24 rfl 1 rfl ?_
      refine g_iload_n hC dL_measure_25 rfl 3 rfl ?_
      refine g_iconst (v := 0) hC dL_measure_26 (by decide) ?_
      refine g_iload_n hC dL_measure_27 rfl 0 rfl ?_
      obtain ⟨r7, h8, hF⟩ := fb_open hF
      refine g_callLW hC hL [.ref a0, .int u2, .int 0, .int x1] (c_L_halfOf l D cy a0 u2 0 x1 w r7 h8) (Or.inl rfl) (fun _ _ h => nomatch h) q_315 q_72 q_313 q_314 h9_L_halfOf ⟨Nat.le_of_ble_eq_true rfl, Nat.le_of_ble_eq_true rfl⟩ ⟨Nat.le_of_ble_eq_true rfl, Nat.le_of_ble_eq_true rfl⟩ (Nat.le_of_ble_eq_true rfl) rfl dL_measure_28 (fun z10 _ e9 => ?_)
      show gAt X 2 12 4 w z10 gE0 [(3, .int x1), (0, .ref a0), (1, .int u1), (2, .int u2)] [.int r7] 31
      refine g_aload_n hC dL_measure_31 rfl 1 rfl ?_
      refine g_iload_n hC dL_measure_32 rfl 3 rfl ?_
      refine g_iconst (v := 1) hC dL_measure_33 (by decide) ?_
      refine g_iload_n hC dL_measure_34 rfl 0 rfl ?_
      obtain ⟨r11, h12, hF⟩ := fb_open hF
      refine g_callLW hC hL [.ref a0, .int u2, .int 1, .int x1] (c_L_halfOf l D cy a0 u2 1 x1 w r11 h12) (Or.inl rfl) (fun _ _ h => nomatch h) q_315 q_72 q_313 q_314 h9_L_halfOf ⟨Nat.le_of_ble_eq_true rfl, Nat.le_of_ble_eq_true rfl⟩ ⟨Nat.le_of_ble_eq_true rfl, Nat.le_of_ble_eq_true rfl⟩ (Nat.le_of_ble_eq_true rfl) rfl dL_measure_35 (fun z14 _ e13 => ?_)
      show gAt X 4 24 4 w z14 gE0 [(3, .int x1), (0, .ref a0), (1, .int u1), (2, .int u2)] [.int r11, .int r7] 38
      refine g_iadd hC dL_measure_38 ?_
      obtain rfl := Option.some.inj hF
      refine g_widen (k' := 4) (s' := 24) (by omega) (by omega) ?_
      exact g_iret hC hEn (fSm.rf w) dL_measure_39
    · replace hF := fi_pos hF c6
      refine g_aload_n hC dL_measure_15 rfl 1 rfl ?_
      refine g_iload_n hC dL_measure_16 rfl 3 rfl ?_
      refine g_iconst (v := 0) hC dL_measure_17 (by decide) ?_
      obtain ⟨r15, h16, hF⟩ := fb_open hF
      refine g_callLW hC hL [.ref a0, .int u2, .int 0] (c_L_ticketOf l D cy a0 u2 0 w r15 h16) (Or.inl rfl) (fun _ _ h => nomatch h) q_1191 q_72 q_1189 q_1190 h9_L_ticketOf ⟨Nat.le_of_ble_eq_true rfl, Nat.le_of_ble_eq_true rfl⟩ ⟨Nat.le_of_ble_eq_true rfl, Nat.le_of_ble_eq_true rfl⟩ (Nat.le_of_ble_eq_true rfl) rfl dL_measure_18 (fun z18 _ e17 => ?_)
      show gAt X 2 12 4 w z18 gE0 [(3, .int x1), (0, .ref a0), (1, .int u1), (2, .int u2)] [.int r15] 21
      refine g_goto hC 39 dL_measure_21 (by decide) ?_
      obtain rfl := Option.some.inj hF
      refine g_widen (k' := 4) (s' := 24) (by omega) (by omega) ?_
      exact g_iret hC hEn (fSm.rf w) dL_measure_39
  refine g_if_ne hC 8 dL_measure_1 (by decide) (fun c19 => ?_) (fun c19 => ?_)
  · replace h2 := fi_neg h2 c19
    refine g_iconst (v := 4) hC dL_measure_8 (by decide) ?_
    obtain rfl := Option.some.inj h2
    exact K4 _
  · replace h2 := fi_pos h2 c19
    refine g_iconst (v := 2) hC dL_measure_4 (by decide) ?_
    refine g_goto hC 9 dL_measure_5 (by decide) ?_
    obtain rfl := Option.some.inj h2
    exact K4 _
