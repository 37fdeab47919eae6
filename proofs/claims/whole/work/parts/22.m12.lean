theorem dX5_ticketOf_0 : decode cX5_ticketOf 0 = .ok (.aload_n 0, 1) := by decide +kernel
theorem dX5_ticketOf_1 : decode cX5_ticketOf 1 = .ok (.aload_n 0, 1) := by decide +kernel
theorem dX5_ticketOf_2 : decode cX5_ticketOf 2 = .ok (.iload_n 1, 1) := by decide +kernel
theorem dX5_ticketOf_3 : decode cX5_ticketOf 3 = .ok (.invokevirtual 135, 3) := by decide +kernel
theorem dX5_ticketOf_6 : decode cX5_ticketOf 6 = .ok (.ifCond .eq 7, 3) := by decide +kernel
theorem dX5_ticketOf_9 : decode cX5_ticketOf 9 = .ok (.iconst 0, 1) := by decide +kernel
theorem dX5_ticketOf_10 : decode cX5_ticketOf 10 = .ok (.goto 4, 3) := by decide +kernel
theorem dX5_ticketOf_13 : decode cX5_ticketOf 13 = .ok (.iconst 1, 1) := by decide +kernel
theorem dX5_ticketOf_14 : decode cX5_ticketOf 14 = .ok (.putfield 41, 3) := by decide +kernel
theorem dX5_ticketOf_17 : decode cX5_ticketOf 17 = .ok (.aload_n 0, 1) := by decide +kernel
theorem dX5_ticketOf_18 : decode cX5_ticketOf 18 = .ok (.getfield 41, 3) := by decide +kernel
theorem dX5_ticketOf_21 : decode cX5_ticketOf 21 = .ok (.ifCond .le 5, 3) := by decide +kernel
theorem dX5_ticketOf_24 : decode cX5_ticketOf 24 = .ok (.iconst 0, 1) := by decide +kernel
theorem dX5_ticketOf_25 : decode cX5_ticketOf 25 = .ok (.ireturn, 1) := by decide +kernel
theorem dX5_ticketOf_26 : decode cX5_ticketOf 26 = .ok (.iload_n 2, 1) := by decide +kernel
theorem dX5_ticketOf_27 : decode cX5_ticketOf 27 = .ok (.tableswitch 94 0 6 #[41, 48, 54, 62, 70, 78, 86], 41) := by decide +kernel
theorem dX5_ticketOf_68 : decode cX5_ticketOf 68 = .ok (.aload_n 0, 1) := by decide +kernel
theorem dX5_ticketOf_69 : decode cX5_ticketOf 69 = .ok (.iload_n 1, 1) := by decide +kernel
theorem dX5_ticketOf_70 : decode cX5_ticketOf 70 = .ok (.iconst 0, 1) := by decide +kernel
theorem dX5_ticketOf_71 : decode cX5_ticketOf 71 = .ok (.invokevirtual 70, 3) := by decide +kernel
theorem dX5_ticketOf_74 : decode cX5_ticketOf 74 = .ok (.ireturn, 1) := by decide +kernel
theorem dX5_ticketOf_75 : decode cX5_ticketOf 75 = .ok (.aload_n 0, 1) := by decide +kernel
theorem dX5_ticketOf_76 : decode cX5_ticketOf 76 = .ok (.iload_n 1, 1) := by decide +kernel
theorem dX5_ticketOf_77 : decode cX5_ticketOf 77 = .ok (.invokevirtual 191, 3) := by decide +kernel
theorem dX5_ticketOf_80 : decode cX5_ticketOf 80 = .ok (.ireturn, 1) := by decide +kernel
theorem dX5_ticketOf_81 : decode cX5_ticketOf 81 = .ok (.aload_n 0, 1) := by decide +kernel
theorem dX5_ticketOf_82 : decode cX5_ticketOf 82 = .ok (.iload_n 1, 1) := by decide +kernel
theorem dX5_ticketOf_83 : decode cX5_ticketOf 83 = .ok (.bipush 7, 2) := by decide +kernel
theorem dX5_ticketOf_85 : decode cX5_ticketOf 85 = .ok (.invokevirtual 70, 3) := by decide +kernel
theorem dX5_ticketOf_88 : decode cX5_ticketOf 88 = .ok (.ireturn, 1) := by decide +kernel
theorem dX5_ticketOf_89 : decode cX5_ticketOf 89 = .ok (.aload_n 0, 1) := by decide +kernel
theorem dX5_ticketOf_90 : decode cX5_ticketOf 90 = .ok (.iload_n 1, 1) := by decide +kernel
theorem dX5_ticketOf_91 : decode cX5_ticketOf 91 = .ok (.bipush 8, 2) := by decide +kernel
theorem dX5_ticketOf_93 : decode cX5_ticketOf 93 = .ok (.invokevirtual 70, 3) := by decide +kernel
theorem dX5_ticketOf_96 : decode cX5_ticketOf 96 = .ok (.ireturn, 1) := by decide +kernel
theorem dX5_ticketOf_97 : decode cX5_ticketOf 97 = .ok (.aload_n 0, 1) := by decide +kernel
theorem dX5_ticketOf_98 : decode cX5_ticketOf 98 = .ok (.iload_n 1, 1) := by decide +kernel
theorem dX5_ticketOf_99 : decode cX5_ticketOf 99 = .ok (.bipush 9, 2) := by decide +kernel
theorem dX5_ticketOf_101 : decode cX5_ticketOf 101 = .ok (.invokevirtual 70, 3) := by decide +kernel
theorem dX5_ticketOf_104 : decode cX5_ticketOf 104 = .ok (.ireturn, 1) := by decide +kernel
theorem dX5_ticketOf_105 : decode cX5_ticketOf 105 = .ok (.aload_n 0, 1) := by decide +kernel
theorem dX5_ticketOf_106 : decode cX5_ticketOf 106 = .ok (.iload_n 1, 1) := by decide +kernel
theorem dX5_ticketOf_107 : decode cX5_ticketOf 107 = .ok (.bipush 10, 2) := by decide +kernel
theorem dX5_ticketOf_109 : decode cX5_ticketOf 109 = .ok (.invokevirtual 70, 3) := by decide +kernel
theorem dX5_ticketOf_112 : decode cX5_ticketOf 112 = .ok (.ireturn, 1) := by decide +kernel
theorem dX5_ticketOf_113 : decode cX5_ticketOf 113 = .ok (.aload_n 0, 1) := by decide +kernel
theorem dX5_ticketOf_114 : decode cX5_ticketOf 114 = .ok (.iload_n 1, 1) := by decide +kernel
theorem dX5_ticketOf_115 : decode cX5_ticketOf 115 = .ok (.bipush 11, 2) := by decide +kernel
theorem dX5_ticketOf_117 : decode cX5_ticketOf 117 = .ok (.invokevirtual 70, 3) := by decide +kernel
theorem dX5_ticketOf_120 : decode cX5_ticketOf 120 = .ok (.ireturn, 1) := by decide +kernel
theorem dX5_ticketOf_121 : decode cX5_ticketOf 121 = .ok (.aload_n 0, 1) := by decide +kernel
theorem dX5_ticketOf_122 : decode cX5_ticketOf 122 = .ok (.iconst 2, 1) := by decide +kernel
theorem dX5_ticketOf_123 : decode cX5_ticketOf 123 = .ok (.invokevirtual 57, 3) := by decide +kernel
theorem dX5_ticketOf_126 : decode cX5_ticketOf 126 = .ok (.ireturn, 1) := by decide +kernel
theorem h9_X5_ticketOf : yX5_ticketOf.cls ≠ "java/lang/invoke/MethodHandle" ∧ yX5_ticketOf.cls ≠ "java/lang/invoke/VarHandle" ∧ (parseMethodDescriptor yX5_ticketOf.desc).map (fun d => d.parameters.length) = some 2 := by decide +kernel
noncomputable def F_X5_ticketOf (a0 : Nat) (x1 : Int32) (x2 : Int32) (w : FW) : Option (Int32 × FW) :=
  fg (w.1 a0 = 6) inferInstance ((F_X5_isTicket a0 x1 w).bind (fun r1 => ((if r1 = 0 then some 1 else some 0) : Option (Int32)).bind (fun x5 => (if (gI (sI w 500 a0 0 x5) 500 a0 0) ≤ 0 then (if x2 = 0 then (F_X5_of a0 x1 0 (sI w 500 a0 0 x5)).bind (fun r11 => some (r11, (sI w 500 a0 0 x5))) else (if x2 = 1 then (F_X5_vowelsOf a0 x1 (sI w 500 a0 0 x5)).bind (fun r15 => some (r15, (sI w 500 a0 0 x5))) else (if x2 = 2 then (F_X5_of a0 x1 7 (sI w 500 a0 0 x5)).bind (fun r19 => some (r19, (sI w 500 a0 0 x5))) else (if x2 = 3 then (F_X5_of a0 x1 8 (sI w 500 a0 0 x5)).bind (fun r23 => some (r23, (sI w 500 a0 0 x5))) else (if x2 = 4 then (F_X5_of a0 x1 9 (sI w 500 a0 0 x5)).bind (fun r27 => some (r27, (sI w 500 a0 0 x5))) else (if x2 = 5 then (F_X5_of a0 x1 10 (sI w 500 a0 0 x5)).bind (fun r31 => some (r31, (sI w 500 a0 0 x5))) else (if x2 = 6 then (F_X5_of a0 x1 11 (sI w 500 a0 0 x5)).bind (fun r35 => some (r35, (sI w 500 a0 0 x5))) else (F_X5_fails a0 2 (sI w 500 a0 0 x5)).bind (fun r38 => some (r38.1, r38.2))))))))) else some (0, (sI w 500 a0 0 x5))))))
set_option maxHeartbeats 4000000 in
set_option maxRecDepth 100000 in
theorem c_X5_ticketOf (l : Launch) (D : va_G) (cy : Nat → ClassId) (a0 : Nat) (x1 : Int32) (x2 : Int32) (w : FW) (r : Int32 × FW) (hF : F_X5_ticketOf a0 x1 x2 w = some r) : fSpec l D cy yX5_ticketOf cX5_ticketOf 3 (some .int) { frames := 3, cells := 0, slots := 0, locals := 67 } [.ref a0, .int x1, .int x2] w r.2 (some (.int r.1)) := by
  refine f_begin (by decide +kernel) (Nat.le_of_ble_eq_true rfl) (fun X hC hEn => ?_)
  unfold F_X5_ticketOf at hF
  show fAt X 0 0 3 w [(0, .ref a0), (1, .int x1), (2, .int x2)] [] 0
  refine f_aload_n hC dX5_ticketOf_0 rfl 0 rfl ?_
  refine f_aload_n hC dX5_ticketOf_1 rfl 0 rfl ?_
  refine f_iload_n hC dX5_ticketOf_2 rfl 1 rfl ?_
  obtain ⟨g3, hF⟩ := fg_open hF
  obtain ⟨r1, h2, hF⟩ := fb_open hF
  refine f_callV hC [.int x1] (c_X5_isTicket l D cy a0 x1 w r1 h2) q_1420 q_137 q_1417 q_1419 q_86 h9_X5_isTicket rfl (fSm.k (fSm.rf w) g3) ⟨Nat.le_of_ble_eq_true rfl, Nat.le_of_ble_eq_true rfl⟩ ⟨Nat.le_of_ble_eq_true rfl, Nat.le_of_ble_eq_true rfl⟩ (Nat.le_of_ble_eq_true rfl) rfl dX5_ticketOf_3 (fun e4 => ?_)
  obtain ⟨x5, h6, hF⟩ := fb_open hF
  have K8 : fAt X 0 0 3 w [(0, .ref a0), (1, .int x1), (2, .int x2)] [.int x5, .ref a0] 14 := by
    refine f_putI hC 5 0 500 rfl (by decide) iX5 tyX5 tyX5_ok nmX5 q_1259 rfl rfl rfl rfl rfl (fSm.k (fSm.rf w) g3) dX5_ticketOf_14 ?_
    refine f_aload_n hC dX5_ticketOf_17 rfl 0 rfl ?_
    refine f_getI hC 5 0 500 rfl (by decide) iX5 q_1259 rfl rfl (fSm.k (fSm.rf w) g3) dX5_ticketOf_18 ?_
    refine f_if_le hC 26 dX5_ticketOf_21 (by decide) (fun c9 => ?_) (fun c9 => ?_)
    · replace hF := fi_pos hF c9
      refine f_iload_n hC dX5_ticketOf_26 rfl 2 rfl ?_
      by_cases c10 : x2 = 0
      · replace hF := fi_pos hF c10
        refine f_tabIn hC 68 dX5_ticketOf_27 (by rw [c10] <;> decide) (by rw [c10] <;> decide) (by rw [c10] <;> rfl) (by decide) ?_
        refine f_aload_n hC dX5_ticketOf_68 rfl 0 rfl ?_
        refine f_iload_n hC dX5_ticketOf_69 rfl 1 rfl ?_
        refine f_iconst (v := 0) hC dX5_ticketOf_70 (by decide) ?_
        obtain ⟨r11, h12, hF⟩ := fb_open hF
        refine f_callV hC [.int x1, .int 0] (c_X5_of l D cy a0 x1 0 (sI w 500 a0 0 x5) r11 h12) q_1452 q_137 q_1449 q_1451 q_91 h9_X5_of rfl (fSm.k (fSm.rf w) g3) ⟨Nat.le_of_ble_eq_true rfl, Nat.le_of_ble_eq_true rfl⟩ ⟨Nat.le_of_ble_eq_true rfl, Nat.le_of_ble_eq_true rfl⟩ (Nat.le_of_ble_eq_true rfl) rfl dX5_ticketOf_71 (fun e13 => ?_)
        obtain rfl := Option.some.inj hF
        exact f_iret hC hEn (fSm.rf w) dX5_ticketOf_74
      · replace hF := fi_neg hF c10
        by_cases c14 : x2 = 1
        · replace hF := fi_pos hF c14
          refine f_tabIn hC 75 dX5_ticketOf_27 (by rw [c14] <;> decide) (by rw [c14] <;> decide) (by rw [c14] <;> rfl) (by decide) ?_
          refine f_aload_n hC dX5_ticketOf_75 rfl 0 rfl ?_
          refine f_iload_n hC dX5_ticketOf_76 rfl 1 rfl ?_
          obtain ⟨r15, h16, hF⟩ := fb_open hF
          refine f_callV hC [.int x1] (c_X5_vowelsOf l D cy a0 x1 (sI w 500 a0 0 x5) r15 h16) q_1456 q_137 q_1453 q_1455 q_92 h9_X5_vowelsOf rfl (fSm.k (fSm.rf w) g3) ⟨Nat.le_of_ble_eq_true rfl, Nat.le_of_ble_eq_true rfl⟩ ⟨Nat.le_of_ble_eq_true rfl, Nat.le_of_ble_eq_true rfl⟩ (Nat.le_of_ble_eq_true rfl) rfl dX5_ticketOf_77 (fun e17 => ?_)
          obtain rfl := Option.some.inj hF
          exact f_iret hC hEn (fSm.rf w) dX5_ticketOf_80
        · replace hF := fi_neg hF c14
          by_cases c18 : x2 = 2
          · replace hF := fi_pos hF c18
            refine f_tabIn hC 81 dX5_ticketOf_27 (by rw [c18] <;> decide) (by rw [c18] <;> decide) (by rw [c18] <;> rfl) (by decide) ?_
            refine f_aload_n hC dX5_ticketOf_81 rfl 0 rfl ?_
            refine f_iload_n hC dX5_ticketOf_82 rfl 1 rfl ?_
            refine f_bipush (v := 7) hC dX5_ticketOf_83 (by decide) ?_
            obtain ⟨r19, h20, hF⟩ := fb_open hF
            refine f_callV hC [.int x1, .int 7] (c_X5_of l D cy a0 x1 7 (sI w 500 a0 0 x5) r19 h20) q_1452 q_137 q_1449 q_1451 q_91 h9_X5_of rfl (fSm.k (fSm.rf w) g3) ⟨Nat.le_of_ble_eq_true rfl, Nat.le_of_ble_eq_true rfl⟩ ⟨Nat.le_of_ble_eq_true rfl, Nat.le_of_ble_eq_true rfl⟩ (Nat.le_of_ble_eq_true rfl) rfl dX5_ticketOf_85 (fun e21 => ?_)
            obtain rfl := Option.some.inj hF
            exact f_iret hC hEn (fSm.rf w) dX5_ticketOf_88
          · replace hF := fi_neg hF c18
            by_cases c22 : x2 = 3
            · replace hF := fi_pos hF c22
              refine f_tabIn hC 89 dX5_ticketOf_27 (by rw [c22] <;> decide) (by rw [c22] <;> decide) (by rw [c22] <;> rfl) (by decide) ?_
              refine f_aload_n hC dX5_ticketOf_89 rfl 0 rfl ?_
              refine f_iload_n hC dX5_ticketOf_90 rfl 1 rfl ?_
              refine f_bipush (v := 8) hC dX5_ticketOf_91 (by decide) ?_
              obtain ⟨r23, h24, hF⟩ := fb_open hF
              refine f_callV hC [.int x1, .int 8] (c_X5_of l D cy a0 x1 8 (sI w 500 a0 0 x5) r23 h24) q_1452 q_137 q_1449 q_1451 q_91 h9_X5_of rfl (fSm.k (fSm.rf w) g3) ⟨Nat.le_of_ble_eq_true rfl, Nat.le_of_ble_eq_true rfl⟩ ⟨Nat.le_of_ble_eq_true rfl, Nat.le_of_ble_eq_true rfl⟩ (Nat.le_of_ble_eq_true rfl) rfl dX5_ticketOf_93 (fun e25 => ?_)
              obtain rfl := Option.some.inj hF
              exact f_iret hC hEn (fSm.rf w) dX5_ticketOf_96
            · replace hF := fi_neg hF c22
              by_cases c26 : x2 = 4
              · replace hF := fi_pos hF c26
                refine f_tabIn hC 97 dX5_ticketOf_27 (by rw [c26] <;> decide) (by rw [c26] <;> decide) (by rw [c26] <;> rfl) (by decide) ?_
                refine f_aload_n hC dX5_ticketOf_97 rfl 0 rfl ?_
                refine f_iload_n hC dX5_ticketOf_98 rfl 1 rfl ?_
                refine f_bipush (v := 9) hC dX5_ticketOf_99 (by decide) ?_
                obtain ⟨r27, h28, hF⟩ := fb_open hF
                refine f_callV hC [.int x1, .int 9] (c_X5_of l D cy a0 x1 9 (sI w 500 a0 0 x5) r27 h28) q_1452 q_137 q_1449 q_1451 q_91 h9_X5_of rfl (fSm.k (fSm.rf w) g3) ⟨Nat.le_of_ble_eq_true rfl, Nat.le_of_ble_eq_true rfl⟩ ⟨Nat.le_of_ble_eq_true rfl, Nat.le_of_ble_eq_true rfl⟩ (Nat.le_of_ble_eq_true rfl) rfl dX5_ticketOf_101 (fun e29 => ?_)
                obtain rfl := Option.some.inj hF
                exact f_iret hC hEn (fSm.rf w) dX5_ticketOf_104
              · replace hF := fi_neg hF c26
                by_cases c30 : x2 = 5
                · replace hF := fi_pos hF c30
                  refine f_tabIn hC 105 dX5_ticketOf_27 (by rw [c30] <;> decide) (by rw [c30] <;> decide) (by rw [c30] <;> rfl) (by decide) ?_
                  refine f_aload_n hC dX5_ticketOf_105 rfl 0 rfl ?_
                  refine f_iload_n hC dX5_ticketOf_106 rfl 1 rfl ?_
                  refine f_bipush (v := 10) hC dX5_ticketOf_107 (by decide) ?_
                  obtain ⟨r31, h32, hF⟩ := fb_open hF
                  refine f_callV hC [.int x1, .int 10] (c_X5_of l D cy a0 x1 10 (sI w 500 a0 0 x5) r31 h32) q_1452 q_137 q_1449 q_1451 q_91 h9_X5_of rfl (fSm.k (fSm.rf w) g3) ⟨Nat.le_of_ble_eq_true rfl, Nat.le_of_ble_eq_true rfl⟩ ⟨Nat.le_of_ble_eq_true rfl, Nat.le_of_ble_eq_true rfl⟩ (Nat.le_of_ble_eq_true rfl) rfl dX5_ticketOf_109 (fun e33 => ?_)
                  obtain rfl := Option.some.inj hF
                  exact f_iret hC hEn (fSm.rf w) dX5_ticketOf_112
                · replace hF := fi_neg hF c30
                  by_cases c34 : x2 = 6
                  · replace hF := fi_pos hF c34
                    refine f_tabIn hC 113 dX5_ticketOf_27 (by rw [c34] <;> decide) (by rw [c34] <;> decide) (by rw [c34] <;> rfl) (by decide) ?_
                    refine f_aload_n hC dX5_ticketOf_113 rfl 0 rfl ?_
                    refine f_iload_n hC dX5_ticketOf_114 rfl 1 rfl ?_
                    refine f_bipush (v := 11) hC dX5_ticketOf_115 (by decide) ?_
                    obtain ⟨r35, h36, hF⟩ := fb_open hF
                    refine f_callV hC [.int x1, .int 11] (c_X5_of l D cy a0 x1 11 (sI w 500 a0 0 x5) r35 h36) q_1452 q_137 q_1449 q_1451 q_91 h9_X5_of rfl (fSm.k (fSm.rf w) g3) ⟨Nat.le_of_ble_eq_true rfl, Nat.le_of_ble_eq_true rfl⟩ ⟨Nat.le_of_ble_eq_true rfl, Nat.le_of_ble_eq_true rfl⟩ (Nat.le_of_ble_eq_true rfl) rfl dX5_ticketOf_117 (fun e37 => ?_)
                    obtain rfl := Option.some.inj hF
                    exact f_iret hC hEn (fSm.rf w) dX5_ticketOf_120
                  · replace hF := fi_neg hF c34
                    refine f_tabOut hC 121 dX5_ticketOf_27 (ftab 0 6 (by decide) (by decide) (fun j h1 h2 => ?_)) (by decide) ?_
                    · rcases (show j = 0 ∨ j = 1 ∨ j = 2 ∨ j = 3 ∨ j = 4 ∨ j = 5 ∨ j = 6 by omega) with rfl | rfl | rfl | rfl | rfl | rfl | rfl
                      · exact c10
                      · exact c14
                      · exact c18
                      · exact c22
                      · exact c26
                      · exact c30
                      · exact c34
                    refine f_aload_n hC dX5_ticketOf_121 rfl 0 rfl ?_
                    refine f_iconst (v := 2) hC dX5_ticketOf_122 (by decide) ?_
                    obtain ⟨r38, h39, hF⟩ := fb_open hF
                    refine f_callV hC [.int 2] (c_X5_fails l D cy a0 2 (sI w 500 a0 0 x5) r38 h39) q_1380 q_137 q_1377 q_1379 q_79 h9_X5_fails rfl (fSm.k (fSm.rf w) g3) ⟨Nat.le_of_ble_eq_true rfl, Nat.le_of_ble_eq_true rfl⟩ ⟨Nat.le_of_ble_eq_true rfl, Nat.le_of_ble_eq_true rfl⟩ (Nat.le_of_ble_eq_true rfl) rfl dX5_ticketOf_123 (fun e40 => ?_)
                    obtain rfl := Option.some.inj hF
                    exact f_iret hC hEn (fSm.tr e40 (fSm.rf w)) dX5_ticketOf_126
    · replace hF := fi_neg hF c9
      refine f_iconst (v := 0) hC dX5_ticketOf_24 (by decide) ?_
      obtain rfl := Option.some.inj hF
      exact f_iret hC hEn (fSm.rf w) dX5_ticketOf_25
  refine f_if_eq hC 13 dX5_ticketOf_6 (by decide) (fun c41 => ?_) (fun c41 => ?_)
  · replace h6 := fi_pos h6 c41
    refine f_iconst (v := 1) hC dX5_ticketOf_13 (by decide) ?_
    obtain rfl := Option.some.inj h6
    exact K8
  · replace h6 := fi_neg h6 c41
    refine f_iconst (v := 0) hC dX5_ticketOf_9 (by decide) ?_
    refine f_goto hC 14 dX5_ticketOf_10 (by decide) ?_
    obtain rfl := Option.some.inj h6
    exact K8
theorem dX5_wordAt_0 : decode cX5_wordAt 0 = .ok (.aload_n 0, 1) := by decide +kernel
theorem dX5_wordAt_1 : decode cX5_wordAt 1 = .ok (.aload_n 0, 1) := by decide +kernel
theorem dX5_wordAt_2 : decode cX5_wordAt 2 = .ok (.iload_n 1, 1) := by decide +kernel
theorem dX5_wordAt_3 : decode cX5_wordAt 3 = .ok (.invokevirtual 135, 3) := by decide +kernel
theorem dX5_wordAt_6 : decode cX5_wordAt 6 = .ok (.ifCond .ne 7, 3) := by decide +kernel
theorem dX5_wordAt_9 : decode cX5_wordAt 9 = .ok (.iconst 1, 1) := by decide +kernel
theorem dX5_wordAt_10 : decode cX5_wordAt 10 = .ok (.goto 24, 3) := by decide +kernel
theorem dX5_wordAt_13 : decode cX5_wordAt 13 = .ok (.iload_n 2, 1) := by decide +kernel
theorem dX5_wordAt_14 : decode cX5_wordAt 14 = .ok (.iconst 0, 1) := by decide +kernel
theorem dX5_wordAt_15 : decode cX5_wordAt 15 = .ok (.aload_n 0, 1) := by decide +kernel
theorem dX5_wordAt_16 : decode cX5_wordAt 16 = .ok (.iload_n 1, 1) := by decide +kernel
theorem dX5_wordAt_17 : decode cX5_wordAt 17 = .ok (.iconst 0, 1) := by decide +kernel
theorem dX5_wordAt_18 : decode cX5_wordAt 18 = .ok (.invokevirtual 70, 3) := by decide +kernel
theorem dX5_wordAt_21 : decode cX5_wordAt 21 = .ok (.iconst 1, 1) := by decide +kernel
theorem dX5_wordAt_22 : decode cX5_wordAt 22 = .ok (.isub, 1) := by decide +kernel
theorem dX5_wordAt_23 : decode cX5_wordAt 23 = .ok (.invokestatic 66, 3) := by decide +kernel
theorem dX5_wordAt_26 : decode cX5_wordAt 26 = .ok (.ifCond .eq 7, 3) := by decide +kernel
theorem dX5_wordAt_29 : decode cX5_wordAt 29 = .ok (.iconst 0, 1) := by decide +kernel
theorem dX5_wordAt_30 : decode cX5_wordAt 30 = .ok (.goto 4, 3) := by decide +kernel
theorem dX5_wordAt_33 : decode cX5_wordAt 33 = .ok (.iconst 2, 1) := by decide +kernel
theorem dX5_wordAt_34 : decode cX5_wordAt 34 = .ok (.putfield 41, 3) := by decide +kernel
theorem dX5_wordAt_37 : decode cX5_wordAt 37 = .ok (.aload_n 0, 1) := by decide +kernel
theorem dX5_wordAt_38 : decode cX5_wordAt 38 = .ok (.getfield 41, 3) := by decide +kernel
theorem dX5_wordAt_41 : decode cX5_wordAt 41 = .ok (.ifCond .le 7, 3) := by decide +kernel
theorem dX5_wordAt_44 : decode cX5_wordAt 44 = .ok (.iconst 0, 1) := by decide +kernel
theorem dX5_wordAt_45 : decode cX5_wordAt 45 = .ok (.goto 10, 3) := by decide +kernel
theorem dX5_wordAt_48 : decode cX5_wordAt 48 = .ok (.aload_n 0, 1) := by decide +kernel
theorem dX5_wordAt_49 : decode cX5_wordAt 49 = .ok (.iload_n 1, 1) := by decide +kernel
theorem dX5_wordAt_50 : decode cX5_wordAt 50 = .ok (.iload_n 2, 1) := by decide +kernel
theorem dX5_wordAt_51 : decode cX5_wordAt 51 = .ok (.invokevirtual 89, 3) := by decide +kernel
theorem dX5_wordAt_54 : decode cX5_wordAt 54 = .ok (.i2c, 1) := by decide +kernel
theorem dX5_wordAt_55 : decode cX5_wordAt 55 = .ok (.ireturn, 1) := by decide +kernel
theorem h9_X5_wordAt : yX5_wordAt.cls ≠ "java/lang/invoke/MethodHandle" ∧ yX5_wordAt.cls ≠ "java/lang/invoke/VarHandle" ∧ (parseMethodDescriptor yX5_wordAt.desc).map (fun d => d.parameters.length) = some 2 := by decide +kernel
noncomputable def F_X5_wordAt (a0 : Nat) (x1 : Int32) (x2 : Int32) (w : FW) : Option (Int32 × FW) :=
  fg (w.1 a0 = 6) inferInstance ((F_X5_isTicket a0 x1 w).bind (fun r1 => ((if r1 = 0 then some 1 else (F_X5_of a0 x1 0 w).bind (fun r15 => (F_X5_in x2 0 (r15 - 1) w).bind (fun r18 => (if r18 = 0 then some 2 else some 0)))) : Option (Int32)).bind (fun x5 => (if (gI (sI w 500 a0 0 x5) 500 a0 0) ≤ 0 then (F_X5_letterOf a0 x1 x2 (sI w 500 a0 0 x5)).bind (fun r10 => fg (fch (fch r10) = (fch r10)) inferInstance (some ((fch r10), (sI w 500 a0 0 x5)))) else some (0, (sI w 500 a0 0 x5))))))
set_option maxHeartbeats 4000000 in
set_option maxRecDepth 100000 in
theorem c_X5_wordAt (l : Launch) (D : va_G) (cy : Nat → ClassId) (a0 : Nat) (x1 : Int32) (x2 : Int32) (w : FW) (r : Int32 × FW) (hF : F_X5_wordAt a0 x1 x2 w = some r) : fSpec l D cy yX5_wordAt cX5_wordAt 3 (some .char) { frames := 2, cells := 0, slots := 0, locals := 44 } [.ref a0, .int x1, .int x2] w r.2 (some (.int r.1)) := by
  refine f_begin (by decide +kernel) (Nat.le_of_ble_eq_true rfl) (fun X hC hEn => ?_)
  unfold F_X5_wordAt at hF
  show fAt X 0 0 3 w [(0, .ref a0), (1, .int x1), (2, .int x2)] [] 0
  refine f_aload_n hC dX5_wordAt_0 rfl 0 rfl ?_
  refine f_aload_n hC dX5_wordAt_1 rfl 0 rfl ?_
  refine f_iload_n hC dX5_wordAt_2 rfl 1 rfl ?_
  obtain ⟨g3, hF⟩ := fg_open hF
  obtain ⟨r1, h2, hF⟩ := fb_open hF
  refine f_callV hC [.int x1] (c_X5_isTicket l D cy a0 x1 w r1 h2) q_1420 q_137 q_1417 q_1419 q_86 h9_X5_isTicket rfl (fSm.k (fSm.rf w) g3) ⟨Nat.le_of_ble_eq_true rfl, Nat.le_of_ble_eq_true rfl⟩ ⟨Nat.le_of_ble_eq_true rfl, Nat.le_of_ble_eq_true rfl⟩ (Nat.le_of_ble_eq_true rfl) rfl dX5_wordAt_3 (fun e4 => ?_)
  obtain ⟨x5, h6, hF⟩ := fb_open hF
  have K8 : fAt X 0 0 3 w [(0, .ref a0), (1, .int x1), (2, .int x2)] [.int x5, .ref a0] 34 := by
    refine f_putI hC 5 0 500 rfl (by decide) iX5 tyX5 tyX5_ok nmX5 q_1259 rfl rfl rfl rfl rfl (fSm.k (fSm.rf w) g3) dX5_wordAt_34 ?_
    refine f_aload_n hC dX5_wordAt_37 rfl 0 rfl ?_
    refine f_getI hC 5 0 500 rfl (by decide) iX5 q_1259 rfl rfl (fSm.k (fSm.rf w) g3) dX5_wordAt_38 ?_
    refine f_if_le hC 48 dX5_wordAt_41 (by decide) (fun c9 => ?_) (fun c9 => ?_)
    · replace hF := fi_pos hF c9
      refine f_aload_n hC dX5_wordAt_48 rfl 0 rfl ?_
      refine f_iload_n hC dX5_wordAt_49 rfl 1 rfl ?_
      refine f_iload_n hC dX5_wordAt_50 rfl 2 rfl ?_
      obtain ⟨r10, h11, hF⟩ := fb_open hF
      refine f_callV hC [.int x1, .int x2] (c_X5_letterOf l D cy a0 x1 x2 (sI w 500 a0 0 x5) r10 h11) q_1460 q_137 q_1457 q_1459 q_93 h9_X5_letterOf rfl (fSm.k (fSm.rf w) g3) ⟨Nat.le_of_ble_eq_true rfl, Nat.le_of_ble_eq_true rfl⟩ ⟨Nat.le_of_ble_eq_true rfl, Nat.le_of_ble_eq_true rfl⟩ (Nat.le_of_ble_eq_true rfl) rfl dX5_wordAt_51 (fun e12 => ?_)
      refine f_i2c hC dX5_wordAt_54 ?_
      obtain ⟨g13, hF⟩ := fg_open hF
      obtain rfl := Option.some.inj hF
      exact f_zret hC hEn (fSm.rf w) (nar_c g13) dX5_wordAt_55
    · replace hF := fi_neg hF c9
      refine f_iconst (v := 0) hC dX5_wordAt_44 (by decide) ?_
      refine f_goto hC 55 dX5_wordAt_45 (by decide) ?_
      obtain rfl := Option.some.inj hF
      exact f_zret hC hEn (fSm.rf w) (nar_c (by decide)) dX5_wordAt_55
  refine f_if_ne hC 13 dX5_wordAt_6 (by decide) (fun c14 => ?_) (fun c14 => ?_)
  · replace h6 := fi_neg h6 c14
    refine f_iload_n hC dX5_wordAt_13 rfl 2 rfl ?_
    refine f_iconst (v := 0) hC dX5_wordAt_14 (by decide) ?_
    refine f_aload_n hC dX5_wordAt_15 rfl 0 rfl ?_
    refine f_iload_n hC dX5_wordAt_16 rfl 1 rfl ?_
    refine f_iconst (v := 0) hC dX5_wordAt_17 (by decide) ?_
    obtain ⟨r15, h16, h6⟩ := fb_open h6
    refine f_callV hC [.int x1, .int 0] (c_X5_of l D cy a0 x1 0 w r15 h16) q_1452 q_137 q_1449 q_1451 q_91 h9_X5_of rfl (fSm.k (fSm.rf w) g3) ⟨Nat.le_of_ble_eq_true rfl, Nat.le_of_ble_eq_true rfl⟩ ⟨Nat.le_of_ble_eq_true rfl, Nat.le_of_ble_eq_true rfl⟩ (Nat.le_of_ble_eq_true rfl) rfl dX5_wordAt_18 (fun e17 => ?_)
    refine f_iconst (v := 1) hC dX5_wordAt_21 (by decide) ?_
    refine f_isub hC dX5_wordAt_22 ?_
    obtain ⟨r18, h19, h6⟩ := fb_open h6
    refine f_callS hC [.int x2, .int 0, .int (r15 - 1)] (c_X5_in l D cy x2 0 (r15 - 1) w r18 h19) q_1357 q_137 q_1355 q_1356 h9_X5_in ⟨Nat.le_of_ble_eq_true rfl, Nat.le_of_ble_eq_true rfl⟩ ⟨Nat.le_of_ble_eq_true rfl, Nat.le_of_ble_eq_true rfl⟩ (Nat.le_of_ble_eq_true rfl) rfl dX5_wordAt_23 (fun e20 => ?_)
    refine f_if_eq hC 33 dX5_wordAt_26 (by decide) (fun c21 => ?_) (fun c21 => ?_)
    · replace h6 := fi_pos h6 c21
      refine f_iconst (v := 2) hC dX5_wordAt_33 (by decide) ?_
      obtain rfl := Option.some.inj h6
      exact K8
    · replace h6 := fi_neg h6 c21
      refine f_iconst (v := 0) hC dX5_wordAt_29 (by decide) ?_
      refine f_goto hC 34 dX5_wordAt_30 (by decide) ?_
      obtain rfl := Option.some.inj h6
      exact K8
  · replace h6 := fi_pos h6 c14
    refine f_iconst (v := 1) hC dX5_wordAt_9 (by decide) ?_
    refine f_goto hC 34 dX5_wordAt_10 (by decide) ?_
    obtain rfl := Option.some.inj h6
    exact K8
theorem dX5_number_0 : decode cX5_number 0 = .ok (.iload_n 0, 1) := by decide +kernel
theorem dX5_number_1 : decode cX5_number 1 = .ok (.ifCond .eq 7, 3) := by decide +kernel
theorem dX5_number_4 : decode cX5_number 4 = .ok (.iconst 1, 1) := by decide +kernel
theorem dX5_number_5 : decode cX5_number 5 = .ok (.goto 4, 3) := by decide +kernel
theorem dX5_number_8 : decode cX5_number 8 = .ok (.iconst 0, 1) := by decide +kernel
theorem dX5_number_9 : decode cX5_number 9 = .ok (.ireturn, 1) := by decide +kernel
theorem h9_X5_number : yX5_number.cls ≠ "java/lang/invoke/MethodHandle" ∧ yX5_number.cls ≠ "java/lang/invoke/VarHandle" ∧ (parseMethodDescriptor yX5_number.desc).map (fun d => d.parameters.length) = some 1 := by decide +kernel
noncomputable def F_X5_number (x1 : Int32) (w : FW) : Option (Int32) :=
  (if x1 = 0 then some 0 else some 1)
set_option maxHeartbeats 4000000 in
set_option maxRecDepth 100000 in
theorem c_X5_number (l : Launch) (D : va_G) (cy : Nat → ClassId) (x1 : Int32) (w : FW) (r : Int32) (hF : F_X5_number x1 w = some r) : fSpec l D cy yX5_number cX5_number 1 (some .int) { frames := 0, cells := 0, slots := 0, locals := 0 } [.int x1] w w (some (.int r)) := by
  refine f_begin (by decide +kernel) (Nat.le_of_ble_eq_true rfl) (fun X hC hEn => ?_)
  unfold F_X5_number at hF
  show fAt X 0 0 1 w [(0, .int x1)] [] 0
  refine f_iload_n hC dX5_number_0 rfl 0 rfl ?_
  refine f_if_eq hC 8 dX5_number_1 (by decide) (fun c1 => ?_) (fun c1 => ?_)
  · replace hF := fi_pos hF c1
    refine f_iconst (v := 0) hC dX5_number_8 (by decide) ?_
    obtain rfl := Option.some.inj hF
    exact f_iret hC hEn (fSm.rf w) dX5_number_9
  · replace hF := fi_neg hF c1
    refine f_iconst (v := 1) hC dX5_number_4 (by decide) ?_
    refine f_goto hC 9 dX5_number_5 (by decide) ?_
    obtain rfl := Option.some.inj hF
    exact f_iret hC hEn (fSm.rf w) dX5_number_9
theorem dX5_punch_0 : decode cX5_punch 0 = .ok (.aload_n 0, 1) := by decide +kernel
theorem dX5_punch_1 : decode cX5_punch 1 = .ok (.invokevirtual 166, 3) := by decide +kernel
theorem dX5_punch_4 : decode cX5_punch 4 = .ok (.aload_n 0, 1) := by decide +kernel
theorem dX5_punch_5 : decode cX5_punch 5 = .ok (.aload_n 0, 1) := by decide +kernel
theorem dX5_punch_6 : decode cX5_punch 6 = .ok (.iload_n 1, 1) := by decide +kernel
theorem dX5_punch_7 : decode cX5_punch 7 = .ok (.iload_n 2, 1) := by decide +kernel
theorem dX5_punch_8 : decode cX5_punch 8 = .ok (.invokestatic 194, 3) := by decide +kernel
theorem dX5_punch_11 : decode cX5_punch 11 = .ok (.iload_n 3, 1) := by decide +kernel
theorem dX5_punch_12 : decode cX5_punch 12 = .ok (.invokevirtual 198, 3) := by decide +kernel
theorem dX5_punch_15 : decode cX5_punch 15 = .ok (.iconst 2, 1) := by decide +kernel
theorem dX5_punch_16 : decode cX5_punch 16 = .ok (.invokevirtual 172, 3) := by decide +kernel
theorem dX5_punch_19 : decode cX5_punch 19 = .ok (.ireturn, 1) := by decide +kernel
theorem h9_X5_punch : yX5_punch.cls ≠ "java/lang/invoke/MethodHandle" ∧ yX5_punch.cls ≠ "java/lang/invoke/VarHandle" ∧ (parseMethodDescriptor yX5_punch.desc).map (fun d => d.parameters.length) = some 3 := by decide +kernel
noncomputable def F_X5_punch (a0 : Nat) (x1 : Int32) (x2 : Int32) (x3 : Int32) (w : FW) : Option (Int32 × FW) :=
  fg (w.1 a0 = 6) inferInstance ((F_X5_remembers a0 w).bind (fun r1 => (F_X5_number x2 r1).bind (fun r5 => (F_X5_punches a0 x1 r5 x3 r1).bind (fun r8 => (F_X5_ends a0 r8.1 2 r8.2).bind (fun r11 => some (r11.1, r11.2))))))
set_option maxHeartbeats 4000000 in
set_option maxRecDepth 100000 in
theorem c_X5_punch (l : Launch) (D : va_G) (cy : Nat → ClassId) (a0 : Nat) (x1 : Int32) (x2 : Int32) (x3 : Int32) (w : FW) (r : Int32 × FW) (hF : F_X5_punch a0 x1 x2 x3 w = some r) : fSpec l D cy yX5_punch cX5_punch 4 (some .int) { frames := 6, cells := 0, slots := 0, locals := 139 } [.ref a0, .int x1, .int x2, .int x3] w r.2 (some (.int r.1)) := by
  refine f_begin (by decide +kernel) (Nat.le_of_ble_eq_true rfl) (fun X hC hEn => ?_)
  unfold F_X5_punch at hF
  show fAt X 0 0 4 w [(0, .ref a0), (1, .int x1), (2, .int x2), (3, .int x3)] [] 0
  refine f_aload_n hC dX5_punch_0 rfl 0 rfl ?_
  obtain ⟨g3, hF⟩ := fg_open hF
  obtain ⟨r1, h2, hF⟩ := fb_open hF
  refine f_callV hC [] (c_X5_remembers l D cy a0 w r1 h2) q_1344 q_137 q_1341 q_1343 q_73 h9_X5_remembers rfl (fSm.k (fSm.rf w) g3) ⟨Nat.le_of_ble_eq_true rfl, Nat.le_of_ble_eq_true rfl⟩ ⟨Nat.le_of_ble_eq_true rfl, Nat.le_of_ble_eq_true rfl⟩ (Nat.le_of_ble_eq_true rfl) rfl dX5_punch_1 (fun e4 => ?_)
  refine f_aload_n hC dX5_punch_4 rfl 0 rfl ?_
  refine f_aload_n hC dX5_punch_5 rfl 0 rfl ?_
  refine f_iload_n hC dX5_punch_6 rfl 1 rfl ?_
  refine f_iload_n hC dX5_punch_7 rfl 2 rfl ?_
  obtain ⟨r5, h6, hF⟩ := fb_open hF
  refine f_callS hC [.int x2] (c_X5_number l D cy x2 r1 r5 h6) q_1471 q_137 q_1469 q_1470 h9_X5_number ⟨Nat.le_of_ble_eq_true rfl, Nat.le_of_ble_eq_true rfl⟩ ⟨Nat.le_of_ble_eq_true rfl, Nat.le_of_ble_eq_true rfl⟩ (Nat.le_of_ble_eq_true rfl) rfl dX5_punch_8 (fun e7 => ?_)
  refine f_iload_n hC dX5_punch_11 rfl 3 rfl ?_
  obtain ⟨r8, h9, hF⟩ := fb_open hF
  refine f_callV hC [.int x1, .int r5, .int x3] (c_X5_punches l D cy a0 x1 r5 x3 r1 r8 h9) q_1475 q_137 q_1472 q_1474 q_94 h9_X5_punches rfl (fSm.k (fSm.tr e4 (fSm.rf w)) g3) ⟨Nat.le_of_ble_eq_true rfl, Nat.le_of_ble_eq_true rfl⟩ ⟨Nat.le_of_ble_eq_true rfl, Nat.le_of_ble_eq_true rfl⟩ (Nat.le_of_ble_eq_true rfl) rfl dX5_punch_12 (fun e10 => ?_)
  refine f_iconst (v := 2) hC dX5_punch_15 (by decide) ?_
  obtain ⟨r11, h12, hF⟩ := fb_open hF
  refine f_callV hC [.int r8.1, .int 2] (c_X5_ends l D cy a0 r8.1 2 r8.2 r11 h12) q_1372 q_137 q_1369 q_1371 q_77 h9_X5_ends rfl (fSm.k (fSm.tr e10 (fSm.tr e4 (fSm.rf w))) g3) ⟨Nat.le_of_ble_eq_true rfl, Nat.le_of_ble_eq_true rfl⟩ ⟨Nat.le_of_ble_eq_true rfl, Nat.le_of_ble_eq_true rfl⟩ (Nat.le_of_ble_eq_true rfl) rfl dX5_punch_16 (fun e13 => ?_)
  obtain rfl := Option.some.inj hF
  exact f_iret hC hEn (fSm.tr e13 (fSm.tr e10 (fSm.tr e4 (fSm.rf w)))) dX5_punch_19
theorem dX5_wet_0 : decode cX5_wet 0 = .ok (.aload_n 0, 1) := by decide +kernel
theorem dX5_wet_1 : decode cX5_wet 1 = .ok (.invokevirtual 166, 3) := by decide +kernel
theorem dX5_wet_4 : decode cX5_wet 4 = .ok (.aload_n 0, 1) := by decide +kernel
theorem dX5_wet_5 : decode cX5_wet 5 = .ok (.aload_n 0, 1) := by decide +kernel
theorem dX5_wet_6 : decode cX5_wet 6 = .ok (.iload_n 1, 1) := by decide +kernel
theorem dX5_wet_7 : decode cX5_wet 7 = .ok (.iload_n 2, 1) := by decide +kernel
theorem dX5_wet_8 : decode cX5_wet 8 = .ok (.invokestatic 194, 3) := by decide +kernel
theorem dX5_wet_11 : decode cX5_wet 11 = .ok (.iload_n 3, 1) := by decide +kernel
theorem dX5_wet_12 : decode cX5_wet 12 = .ok (.invokevirtual 201, 3) := by decide +kernel
theorem dX5_wet_15 : decode cX5_wet 15 = .ok (.iconst 3, 1) := by decide +kernel
theorem dX5_wet_16 : decode cX5_wet 16 = .ok (.invokevirtual 172, 3) := by decide +kernel
theorem dX5_wet_19 : decode cX5_wet 19 = .ok (.ireturn, 1) := by decide +kernel
theorem h9_X5_wet : yX5_wet.cls ≠ "java/lang/invoke/MethodHandle" ∧ yX5_wet.cls ≠ "java/lang/invoke/VarHandle" ∧ (parseMethodDescriptor yX5_wet.desc).map (fun d => d.parameters.length) = some 3 := by decide +kernel
noncomputable def F_X5_wet (a0 : Nat) (x1 : Int32) (x2 : Int32) (x3 : Int32) (w : FW) : Option (Int32 × FW) :=
  fg (w.1 a0 = 6) inferInstance ((F_X5_remembers a0 w).bind (fun r1 => (F_X5_number x2 r1).bind (fun r5 => (F_X5_makesWet a0 x1 r5 x3 r1).bind (fun r8 => (F_X5_ends a0 r8.1 3 r8.2).bind (fun r11 => some (r11.1, r11.2))))))
set_option maxHeartbeats 4000000 in
set_option maxRecDepth 100000 in
theorem c_X5_wet (l : Launch) (D : va_G) (cy : Nat → ClassId) (a0 : Nat) (x1 : Int32) (x2 : Int32) (x3 : Int32) (w : FW) (r : Int32 × FW) (hF : F_X5_wet a0 x1 x2 x3 w = some r) : fSpec l D cy yX5_wet cX5_wet 4 (some .int) { frames := 4, cells := 0, slots := 0, locals := 94 } [.ref a0, .int x1, .int x2, .int x3] w r.2 (some (.int r.1)) := by
  refine f_begin (by decide +kernel) (Nat.le_of_ble_eq_true rfl) (fun X hC hEn => ?_)
  unfold F_X5_wet at hF
  show fAt X 0 0 4 w [(0, .ref a0), (1, .int x1), (2, .int x2), (3, .int x3)] [] 0
  refine f_aload_n hC dX5_wet_0 rfl 0 rfl ?_
  obtain ⟨g3, hF⟩ := fg_open hF
  obtain ⟨r1, h2, hF⟩ := fb_open hF
  refine f_callV hC [] (c_X5_remembers l D cy a0 w r1 h2) q_1344 q_137 q_1341 q_1343 q_73 h9_X5_remembers rfl (fSm.k (fSm.rf w) g3) ⟨Nat.le_of_ble_eq_true rfl, Nat.le_of_ble_eq_true rfl⟩ ⟨Nat.le_of_ble_eq_true rfl, Nat.le_of_ble_eq_true rfl⟩ (Nat.le_of_ble_eq_true rfl) rfl dX5_wet_1 (fun e4 => ?_)
  refine f_aload_n hC dX5_wet_4 rfl 0 rfl ?_
  refine f_aload_n hC dX5_wet_5 rfl 0 rfl ?_
  refine f_iload_n hC dX5_wet_6 rfl 1 rfl ?_
  refine f_iload_n hC dX5_wet_7 rfl 2 rfl ?_
  obtain ⟨r5, h6, hF⟩ := fb_open hF
  refine f_callS hC [.int x2] (c_X5_number l D cy x2 r1 r5 h6) q_1471 q_137 q_1469 q_1470 h9_X5_number ⟨Nat.le_of_ble_eq_true rfl, Nat.le_of_ble_eq_true rfl⟩ ⟨Nat.le_of_ble_eq_true rfl, Nat.le_of_ble_eq_true rfl⟩ (Nat.le_of_ble_eq_true rfl) rfl dX5_wet_8 (fun e7 => ?_)
  refine f_iload_n hC dX5_wet_11 rfl 3 rfl ?_
  obtain ⟨r8, h9, hF⟩ := fb_open hF
  refine f_callV hC [.int x1, .int r5, .int x3] (c_X5_makesWet l D cy a0 x1 r5 x3 r1 r8 h9) q_1502 q_137 q_1499 q_1501 q_99 h9_X5_makesWet rfl (fSm.k (fSm.tr e4 (fSm.rf w)) g3) ⟨Nat.le_of_ble_eq_true rfl, Nat.le_of_ble_eq_true rfl⟩ ⟨Nat.le_of_ble_eq_true rfl, Nat.le_of_ble_eq_true rfl⟩ (Nat.le_of_ble_eq_true rfl) rfl dX5_wet_12 (fun e10 => ?_)
  refine f_iconst (v := 3) hC dX5_wet_15 (by decide) ?_
  obtain ⟨r11, h12, hF⟩ := fb_open hF
  refine f_callV hC [.int r8.1, .int 3] (c_X5_ends l D cy a0 r8.1 3 r8.2 r11 h12) q_1372 q_137 q_1369 q_1371 q_77 h9_X5_ends rfl (fSm.k (fSm.tr e10 (fSm.tr e4 (fSm.rf w))) g3) ⟨Nat.le_of_ble_eq_true rfl, Nat.le_of_ble_eq_true rfl⟩ ⟨Nat.le_of_ble_eq_true rfl, Nat.le_of_ble_eq_true rfl⟩ (Nat.le_of_ble_eq_true rfl) rfl dX5_wet_16 (fun e13 => ?_)
  obtain rfl := Option.some.inj hF
  exact f_iret hC hEn (fSm.tr e13 (fSm.tr e10 (fSm.tr e4 (fSm.rf w)))) dX5_wet_19
theorem dX5_tear_0 : decode cX5_tear 0 = .ok (.aload_n 0, 1) := by decide +kernel
theorem dX5_tear_1 : decode cX5_tear 1 = .ok (.invokevirtual 166, 3) := by decide +kernel
theorem dX5_tear_4 : decode cX5_tear 4 = .ok (.aload_n 0, 1) := by decide +kernel
theorem dX5_tear_5 : decode cX5_tear 5 = .ok (.aload_n 0, 1) := by decide +kernel
theorem dX5_tear_6 : decode cX5_tear 6 = .ok (.iload_n 1, 1) := by decide +kernel
theorem dX5_tear_7 : decode cX5_tear 7 = .ok (.invokevirtual 204, 3) := by decide +kernel
theorem dX5_tear_10 : decode cX5_tear 10 = .ok (.iconst 2, 1) := by decide +kernel
theorem dX5_tear_11 : decode cX5_tear 11 = .ok (.invokevirtual 172, 3) := by decide +kernel
theorem dX5_tear_14 : decode cX5_tear 14 = .ok (.ireturn, 1) := by decide +kernel
theorem h9_X5_tear : yX5_tear.cls ≠ "java/lang/invoke/MethodHandle" ∧ yX5_tear.cls ≠ "java/lang/invoke/VarHandle" ∧ (parseMethodDescriptor yX5_tear.desc).map (fun d => d.parameters.length) = some 1 := by decide +kernel
noncomputable def F_X5_tear (a0 : Nat) (x1 : Int32) (w : FW) : Option (Int32 × FW) :=
  fg (w.1 a0 = 6) inferInstance ((F_X5_remembers a0 w).bind (fun r1 => (F_X5_tears a0 x1 r1).bind (fun r5 => (F_X5_ends a0 r5.1 2 r5.2).bind (fun r8 => some (r8.1, r8.2)))))
set_option maxHeartbeats 4000000 in
set_option maxRecDepth 100000 in
theorem c_X5_tear (l : Launch) (D : va_G) (cy : Nat → ClassId) (a0 : Nat) (x1 : Int32) (w : FW) (r : Int32 × FW) (hF : F_X5_tear a0 x1 w = some r) : fSpec l D cy yX5_tear cX5_tear 2 (some .int) { frames := 3, cells := 0, slots := 0, locals := 65 } [.ref a0, .int x1] w r.2 (some (.int r.1)) := by
  refine f_begin (by decide +kernel) (Nat.le_of_ble_eq_true rfl) (fun X hC hEn => ?_)
  unfold F_X5_tear at hF
  show fAt X 0 0 2 w [(0, .ref a0), (1, .int x1)] [] 0
  refine f_aload_n hC dX5_tear_0 rfl 0 rfl ?_
  obtain ⟨g3, hF⟩ := fg_open hF
  obtain ⟨r1, h2, hF⟩ := fb_open hF
  refine f_callV hC [] (c_X5_remembers l D cy a0 w r1 h2) q_1344 q_137 q_1341 q_1343 q_73 h9_X5_remembers rfl (fSm.k (fSm.rf w) g3) ⟨Nat.le_of_ble_eq_true rfl, Nat.le_of_ble_eq_true rfl⟩ ⟨Nat.le_of_ble_eq_true rfl, Nat.le_of_ble_eq_true rfl⟩ (Nat.le_of_ble_eq_true rfl) rfl dX5_tear_1 (fun e4 => ?_)
  refine f_aload_n hC dX5_tear_4 rfl 0 rfl ?_
  refine f_aload_n hC dX5_tear_5 rfl 0 rfl ?_
  refine f_iload_n hC dX5_tear_6 rfl 1 rfl ?_
  obtain ⟨r5, h6, hF⟩ := fb_open hF
  refine f_callV hC [.int x1] (c_X5_tears l D cy a0 x1 r1 r5 h6) q_1514 q_137 q_1511 q_1513 q_101 h9_X5_tears rfl (fSm.k (fSm.tr e4 (fSm.rf w)) g3) ⟨Nat.le_of_ble_eq_true rfl, Nat.le_of_ble_eq_true rfl⟩ ⟨Nat.le_of_ble_eq_true rfl, Nat.le_of_ble_eq_true rfl⟩ (Nat.le_of_ble_eq_true rfl) rfl dX5_tear_7 (fun e7 => ?_)
  refine f_iconst (v := 2) hC dX5_tear_10 (by decide) ?_
  obtain ⟨r8, h9, hF⟩ := fb_open hF
  refine f_callV hC [.int r5.1, .int 2] (c_X5_ends l D cy a0 r5.1 2 r5.2 r8 h9) q_1372 q_137 q_1369 q_1371 q_77 h9_X5_ends rfl (fSm.k (fSm.tr e7 (fSm.tr e4 (fSm.rf w))) g3) ⟨Nat.le_of_ble_eq_true rfl, Nat.le_of_ble_eq_true rfl⟩ ⟨Nat.le_of_ble_eq_true rfl, Nat.le_of_ble_eq_true rfl⟩ (Nat.le_of_ble_eq_true rfl) rfl dX5_tear_11 (fun e10 => ?_)
  obtain rfl := Option.some.inj hF
  exact f_iret hC hEn (fSm.tr e10 (fSm.tr e7 (fSm.tr e4 (fSm.rf w)))) dX5_tear_14
theorem dX5_lose_0 : decode cX5_lose 0 = .ok (.aload_n 0, 1) := by decide +kernel
theorem dX5_lose_1 : decode cX5_lose 1 = .ok (.invokevirtual 166, 3) := by decide +kernel
theorem dX5_lose_4 : decode cX5_lose 4 = .ok (.aload_n 0, 1) := by decide +kernel
theorem dX5_lose_5 : decode cX5_lose 5 = .ok (.aload_n 0, 1) := by decide +kernel
theorem dX5_lose_6 : decode cX5_lose 6 = .ok (.iload_n 1, 1) := by decide +kernel
theorem dX5_lose_7 : decode cX5_lose 7 = .ok (.iload_n 2, 1) := by decide +kernel
theorem dX5_lose_8 : decode cX5_lose 8 = .ok (.invokestatic 194, 3) := by decide +kernel
theorem dX5_lose_11 : decode cX5_lose 11 = .ok (.iconst 1, 1) := by decide +kernel
theorem dX5_lose_12 : decode cX5_lose 12 = .ok (.invokevirtual 207, 3) := by decide +kernel
theorem dX5_lose_15 : decode cX5_lose 15 = .ok (.iconst 2, 1) := by decide +kernel
theorem dX5_lose_16 : decode cX5_lose 16 = .ok (.invokevirtual 172, 3) := by decide +kernel
theorem dX5_lose_19 : decode cX5_lose 19 = .ok (.ireturn, 1) := by decide +kernel
theorem h9_X5_lose : yX5_lose.cls ≠ "java/lang/invoke/MethodHandle" ∧ yX5_lose.cls ≠ "java/lang/invoke/VarHandle" ∧ (parseMethodDescriptor yX5_lose.desc).map (fun d => d.parameters.length) = some 2 := by decide +kernel
noncomputable def F_X5_lose (a0 : Nat) (x1 : Int32) (x2 : Int32) (w : FW) : Option (Int32 × FW) :=
  fg (w.1 a0 = 6) inferInstance ((F_X5_remembers a0 w).bind (fun r1 => (F_X5_number x2 r1).bind (fun r5 => (F_X5_goes a0 x1 r5 1 r1).bind (fun r8 => (F_X5_ends a0 r8.1 2 r8.2).bind (fun r11 => some (r11.1, r11.2))))))
set_option maxHeartbeats 4000000 in
set_option maxRecDepth 100000 in
theorem c_X5_lose (l : Launch) (D : va_G) (cy : Nat → ClassId) (a0 : Nat) (x1 : Int32) (x2 : Int32) (w : FW) (r : Int32 × FW) (hF : F_X5_lose a0 x1 x2 w = some r) : fSpec l D cy yX5_lose cX5_lose 3 (some .int) { frames := 4, cells := 0, slots := 0, locals := 90 } [.ref a0, .int x1, .int x2] w r.2 (some (.int r.1)) := by
  refine f_begin (by decide +kernel) (Nat.le_of_ble_eq_true rfl) (fun X hC hEn => ?_)
  unfold F_X5_lose at hF
  show fAt X 0 0 3 w [(0, .ref a0), (1, .int x1), (2, .int x2)] [] 0
  refine f_aload_n hC dX5_lose_0 rfl 0 rfl ?_
  obtain ⟨g3, hF⟩ := fg_open hF
  obtain ⟨r1, h2, hF⟩ := fb_open hF
  refine f_callV hC [] (c_X5_remembers l D cy a0 w r1 h2) q_1344 q_137 q_1341 q_1343 q_73 h9_X5_remembers rfl (fSm.k (fSm.rf w) g3) ⟨Nat.le_of_ble_eq_true rfl, Nat.le_of_ble_eq_true rfl⟩ ⟨Nat.le_of_ble_eq_true rfl, Nat.le_of_ble_eq_true rfl⟩ (Nat.le_of_ble_eq_true rfl) rfl dX5_lose_1 (fun e4 => ?_)
  refine f_aload_n hC dX5_lose_4 rfl 0 rfl ?_
  refine f_aload_n hC dX5_lose_5 rfl 0 rfl ?_
  refine f_iload_n hC dX5_lose_6 rfl 1 rfl ?_
  refine f_iload_n hC dX5_lose_7 rfl 2 rfl ?_
  obtain ⟨r5, h6, hF⟩ := fb_open hF
  refine f_callS hC [.int x2] (c_X5_number l D cy x2 r1 r5 h6) q_1471 q_137 q_1469 q_1470 h9_X5_number ⟨Nat.le_of_ble_eq_true rfl, Nat.le_of_ble_eq_true rfl⟩ ⟨Nat.le_of_ble_eq_true rfl, Nat.le_of_ble_eq_true rfl⟩ (Nat.le_of_ble_eq_true rfl) rfl dX5_lose_8 (fun e7 => ?_)
  refine f_iconst (v := 1) hC dX5_lose_11 (by decide) ?_
  obtain ⟨r8, h9, hF⟩ := fb_open hF
  refine f_callV hC [.int x1, .int r5, .int 1] (c_X5_goes l D cy a0 x1 r5 1 r1 r8 h9) q_1526 q_137 q_1523 q_1525 q_103 h9_X5_goes rfl (fSm.k (fSm.tr e4 (fSm.rf w)) g3) ⟨Nat.le_of_ble_eq_true rfl, Nat.le_of_ble_eq_true rfl⟩ ⟨Nat.le_of_ble_eq_true rfl, Nat.le_of_ble_eq_true rfl⟩ (Nat.le_of_ble_eq_true rfl) rfl dX5_lose_12 (fun e10 => ?_)
  refine f_iconst (v := 2) hC dX5_lose_15 (by decide) ?_
  obtain ⟨r11, h12, hF⟩ := fb_open hF
  refine f_callV hC [.int r8.1, .int 2] (c_X5_ends l D cy a0 r8.1 2 r8.2 r11 h12) q_1372 q_137 q_1369 q_1371 q_77 h9_X5_ends rfl (fSm.k (fSm.tr e10 (fSm.tr e4 (fSm.rf w))) g3) ⟨Nat.le_of_ble_eq_true rfl, Nat.le_of_ble_eq_true rfl⟩ ⟨Nat.le_of_ble_eq_true rfl, Nat.le_of_ble_eq_true rfl⟩ (Nat.le_of_ble_eq_true rfl) rfl dX5_lose_16 (fun e13 => ?_)
  obtain rfl := Option.some.inj hF
  exact f_iret hC hEn (fSm.tr e13 (fSm.tr e10 (fSm.tr e4 (fSm.rf w)))) dX5_lose_19
theorem dX5_find_0 : decode cX5_find 0 = .ok (.aload_n 0, 1) := by decide +kernel
theorem dX5_find_1 : decode cX5_find 1 = .ok (.invokevirtual 166, 3) := by decide +kernel
theorem dX5_find_4 : decode cX5_find 4 = .ok (.aload_n 0, 1) := by decide +kernel
theorem dX5_find_5 : decode cX5_find 5 = .ok (.aload_n 0, 1) := by decide +kernel
theorem dX5_find_6 : decode cX5_find 6 = .ok (.iload_n 1, 1) := by decide +kernel
theorem dX5_find_7 : decode cX5_find 7 = .ok (.iload_n 2, 1) := by decide +kernel
theorem dX5_find_8 : decode cX5_find 8 = .ok (.invokestatic 194, 3) := by decide +kernel
theorem dX5_find_11 : decode cX5_find 11 = .ok (.iconst 0, 1) := by decide +kernel
theorem dX5_find_12 : decode cX5_find 12 = .ok (.invokevirtual 207, 3) := by decide +kernel
theorem dX5_find_15 : decode cX5_find 15 = .ok (.iconst 2, 1) := by decide +kernel
theorem dX5_find_16 : decode cX5_find 16 = .ok (.invokevirtual 172, 3) := by decide +kernel
theorem dX5_find_19 : decode cX5_find 19 = .ok (.ireturn, 1) := by decide +kernel
theorem h9_X5_find : yX5_find.cls ≠ "java/lang/invoke/MethodHandle" ∧ yX5_find.cls ≠ "java/lang/invoke/VarHandle" ∧ (parseMethodDescriptor yX5_find.desc).map (fun d => d.parameters.length) = some 2 := by decide +kernel
noncomputable def F_X5_find (a0 : Nat) (x1 : Int32) (x2 : Int32) (w : FW) : Option (Int32 × FW) :=
  fg (w.1 a0 = 6) inferInstance ((F_X5_remembers a0 w).bind (fun r1 => (F_X5_number x2 r1).bind (fun r5 => (F_X5_goes a0 x1 r5 0 r1).bind (fun r8 => (F_X5_ends a0 r8.1 2 r8.2).bind (fun r11 => some (r11.1, r11.2))))))
set_option maxHeartbeats 4000000 in
set_option maxRecDepth 100000 in
theorem c_X5_find (l : Launch) (D : va_G) (cy : Nat → ClassId) (a0 : Nat) (x1 : Int32) (x2 : Int32) (w : FW) (r : Int32 × FW) (hF : F_X5_find a0 x1 x2 w = some r) : fSpec l D cy yX5_find cX5_find 3 (some .int) { frames := 4, cells := 0, slots := 0, locals := 90 } [.ref a0, .int x1, .int x2] w r.2 (some (.int r.1)) := by
  refine f_begin (by decide +kernel) (Nat.le_of_ble_eq_true rfl) (fun X hC hEn => ?_)
  unfold F_X5_find at hF
  show fAt X 0 0 3 w [(0, .ref a0), (1, .int x1), (2, .int x2)] [] 0
  refine f_aload_n hC dX5_find_0 rfl 0 rfl ?_
  obtain ⟨g3, hF⟩ := fg_open hF
  obtain ⟨r1, h2, hF⟩ := fb_open hF
  refine f_callV hC [] (c_X5_remembers l D cy a0 w r1 h2) q_1344 q_137 q_1341 q_1343 q_73 h9_X5_remembers rfl (fSm.k (fSm.rf w) g3) ⟨Nat.le_of_ble_eq_true rfl, Nat.le_of_ble_eq_true rfl⟩ ⟨Nat.le_of_ble_eq_true rfl, Nat.le_of_ble_eq_true rfl⟩ (Nat.le_of_ble_eq_true rfl) rfl dX5_find_1 (fun e4 => ?_)
  refine f_aload_n hC dX5_find_4 rfl 0 rfl ?_
  refine f_aload_n hC dX5_find_5 rfl 0 rfl ?_
  refine f_iload_n hC dX5_find_6 rfl 1 rfl ?_
  refine f_iload_n hC dX5_find_7 rfl 2 rfl ?_
  obtain ⟨r5, h6, hF⟩ := fb_open hF
  refine f_callS hC [.int x2] (c_X5_number l D cy x2 r1 r5 h6) q_1471 q_137 q_1469 q_1470 h9_X5_number ⟨Nat.le_of_ble_eq_true rfl, Nat.le_of_ble_eq_true rfl⟩ ⟨Nat.le_of_ble_eq_true rfl, Nat.le_of_ble_eq_true rfl⟩ (Nat.le_of_ble_eq_true rfl) rfl dX5_find_8 (fun e7 => ?_)
  refine f_iconst (v := 0) hC dX5_find_11 (by decide) ?_
  obtain ⟨r8, h9, hF⟩ := fb_open hF
  refine f_callV hC [.int x1, .int r5, .int 0] (c_X5_goes l D cy a0 x1 r5 0 r1 r8 h9) q_1526 q_137 q_1523 q_1525 q_103 h9_X5_goes rfl (fSm.k (fSm.tr e4 (fSm.rf w)) g3) ⟨Nat.le_of_ble_eq_true rfl, Nat.le_of_ble_eq_true rfl⟩ ⟨Nat.le_of_ble_eq_true rfl, Nat.le_of_ble_eq_true rfl⟩ (Nat.le_of_ble_eq_true rfl) rfl dX5_find_12 (fun e10 => ?_)
  refine f_iconst (v := 2) hC dX5_find_15 (by decide) ?_
  obtain ⟨r11, h12, hF⟩ := fb_open hF
  refine f_callV hC [.int r8.1, .int 2] (c_X5_ends l D cy a0 r8.1 2 r8.2 r11 h12) q_1372 q_137 q_1369 q_1371 q_77 h9_X5_ends rfl (fSm.k (fSm.tr e10 (fSm.tr e4 (fSm.rf w))) g3) ⟨Nat.le_of_ble_eq_true rfl, Nat.le_of_ble_eq_true rfl⟩ ⟨Nat.le_of_ble_eq_true rfl, Nat.le_of_ble_eq_true rfl⟩ (Nat.le_of_ble_eq_true rfl) rfl dX5_find_16 (fun e13 => ?_)
  obtain rfl := Option.some.inj hF
  exact f_iret hC hEn (fSm.tr e13 (fSm.tr e10 (fSm.tr e4 (fSm.rf w)))) dX5_find_19
theorem dX5_halfOf_0 : decode cX5_halfOf 0 = .ok (.aload_n 0, 1) := by decide +kernel
theorem dX5_halfOf_1 : decode cX5_halfOf 1 = .ok (.aload_n 0, 1) := by decide +kernel
theorem dX5_halfOf_2 : decode cX5_halfOf 2 = .ok (.iload_n 1, 1) := by decide +kernel
theorem dX5_halfOf_3 : decode cX5_halfOf 3 = .ok (.invokevirtual 135, 3) := by decide +kernel
theorem dX5_halfOf_6 : decode cX5_halfOf 6 = .ok (.ifCond .eq 7, 3) := by decide +kernel
theorem dX5_halfOf_9 : decode cX5_halfOf 9 = .ok (.iconst 0, 1) := by decide +kernel
theorem dX5_halfOf_10 : decode cX5_halfOf 10 = .ok (.goto 4, 3) := by decide +kernel
theorem dX5_halfOf_13 : decode cX5_halfOf 13 = .ok (.iconst 1, 1) := by decide +kernel
theorem dX5_halfOf_14 : decode cX5_halfOf 14 = .ok (.putfield 41, 3) := by decide +kernel
theorem dX5_halfOf_17 : decode cX5_halfOf 17 = .ok (.aload_n 0, 1) := by decide +kernel
theorem dX5_halfOf_18 : decode cX5_halfOf 18 = .ok (.getfield 41, 3) := by decide +kernel
theorem dX5_halfOf_21 : decode cX5_halfOf 21 = .ok (.ifCond .le 5, 3) := by decide +kernel
theorem dX5_halfOf_24 : decode cX5_halfOf 24 = .ok (.iconst 0, 1) := by decide +kernel
theorem dX5_halfOf_25 : decode cX5_halfOf 25 = .ok (.ireturn, 1) := by decide +kernel
theorem dX5_halfOf_26 : decode cX5_halfOf 26 = .ok (.iload_n 2, 1) := by decide +kernel
theorem dX5_halfOf_27 : decode cX5_halfOf 27 = .ok (.invokestatic 194, 3) := by decide +kernel
theorem dX5_halfOf_30 : decode cX5_halfOf 30 = .ok (.istore 4, 2) := by decide +kernel
theorem dX5_halfOf_32 : decode cX5_halfOf 32 = .ok (.iload_n 3, 1) := by decide +kernel
theorem dX5_halfOf_33 : decode cX5_halfOf 33 = .ok (.tableswitch 148 0 7 #[47, 58, 67, 76, 84, 92, 101, 110], 47) := by decide +kernel
theorem dX5_halfOf_80 : decode cX5_halfOf 80 = .ok (.aload_n 0, 1) := by decide +kernel
theorem dX5_halfOf_81 : decode cX5_halfOf 81 = .ok (.iload_n 1, 1) := by decide +kernel
theorem dX5_halfOf_82 : decode cX5_halfOf 82 = .ok (.iload 4, 2) := by decide +kernel
theorem dX5_halfOf_84 : decode cX5_halfOf 84 = .ok (.invokevirtual 92, 3) := by decide +kernel
theorem dX5_halfOf_87 : decode cX5_halfOf 87 = .ok (.invokestatic 194, 3) := by decide +kernel
theorem dX5_halfOf_90 : decode cX5_halfOf 90 = .ok (.ireturn, 1) := by decide +kernel
theorem dX5_halfOf_91 : decode cX5_halfOf 91 = .ok (.aload_n 0, 1) := by decide +kernel
theorem dX5_halfOf_92 : decode cX5_halfOf 92 = .ok (.iload_n 1, 1) := by decide +kernel
theorem dX5_halfOf_93 : decode cX5_halfOf 93 = .ok (.iload 4, 2) := by decide +kernel
theorem dX5_halfOf_95 : decode cX5_halfOf 95 = .ok (.iconst 0, 1) := by decide +kernel
theorem dX5_halfOf_96 : decode cX5_halfOf 96 = .ok (.invokevirtual 78, 3) := by decide +kernel
theorem dX5_halfOf_99 : decode cX5_halfOf 99 = .ok (.ireturn, 1) := by decide +kernel
theorem dX5_halfOf_100 : decode cX5_halfOf 100 = .ok (.aload_n 0, 1) := by decide +kernel
theorem dX5_halfOf_101 : decode cX5_halfOf 101 = .ok (.iload_n 1, 1) := by decide +kernel
theorem dX5_halfOf_102 : decode cX5_halfOf 102 = .ok (.iload 4, 2) := by decide +kernel
theorem dX5_halfOf_104 : decode cX5_halfOf 104 = .ok (.iconst 1, 1) := by decide +kernel
theorem dX5_halfOf_105 : decode cX5_halfOf 105 = .ok (.invokevirtual 78, 3) := by decide +kernel
theorem dX5_halfOf_108 : decode cX5_halfOf 108 = .ok (.ireturn, 1) := by decide +kernel
theorem dX5_halfOf_109 : decode cX5_halfOf 109 = .ok (.aload_n 0, 1) := by decide +kernel
theorem dX5_halfOf_110 : decode cX5_halfOf 110 = .ok (.iload_n 1, 1) := by decide +kernel
theorem dX5_halfOf_111 : decode cX5_halfOf 111 = .ok (.iload 4, 2) := by decide +kernel
theorem dX5_halfOf_113 : decode cX5_halfOf 113 = .ok (.invokevirtual 145, 3) := by decide +kernel
theorem dX5_halfOf_116 : decode cX5_halfOf 116 = .ok (.ireturn, 1) := by decide +kernel
theorem dX5_halfOf_117 : decode cX5_halfOf 117 = .ok (.aload_n 0, 1) := by decide +kernel
theorem dX5_halfOf_118 : decode cX5_halfOf 118 = .ok (.iload_n 1, 1) := by decide +kernel
theorem dX5_halfOf_119 : decode cX5_halfOf 119 = .ok (.iload 4, 2) := by decide +kernel
theorem dX5_halfOf_121 : decode cX5_halfOf 121 = .ok (.invokevirtual 210, 3) := by decide +kernel
theorem dX5_halfOf_124 : decode cX5_halfOf 124 = .ok (.ireturn, 1) := by decide +kernel
theorem dX5_halfOf_125 : decode cX5_halfOf 125 = .ok (.aload_n 0, 1) := by decide +kernel
theorem dX5_halfOf_126 : decode cX5_halfOf 126 = .ok (.iload_n 1, 1) := by decide +kernel
theorem dX5_halfOf_127 : decode cX5_halfOf 127 = .ok (.iload 4, 2) := by decide +kernel
theorem dX5_halfOf_129 : decode cX5_halfOf 129 = .ok (.iconst 2, 1) := by decide +kernel
theorem dX5_halfOf_130 : decode cX5_halfOf 130 = .ok (.invokevirtual 78, 3) := by decide +kernel
theorem dX5_halfOf_133 : decode cX5_halfOf 133 = .ok (.ireturn, 1) := by decide +kernel
theorem dX5_halfOf_134 : decode cX5_halfOf 134 = .ok (.aload_n 0, 1) := by decide +kernel
theorem dX5_halfOf_135 : decode cX5_halfOf 135 = .ok (.iload_n 1, 1) := by decide +kernel
theorem dX5_halfOf_136 : decode cX5_halfOf 136 = .ok (.iload 4, 2) := by decide +kernel
theorem dX5_halfOf_138 : decode cX5_halfOf 138 = .ok (.iconst 3, 1) := by decide +kernel
theorem dX5_halfOf_139 : decode cX5_halfOf 139 = .ok (.invokevirtual 78, 3) := by decide +kernel
theorem dX5_halfOf_142 : decode cX5_halfOf 142 = .ok (.ireturn, 1) := by decide +kernel
theorem dX5_halfOf_143 : decode cX5_halfOf 143 = .ok (.aload_n 0, 1) := by decide +kernel
theorem dX5_halfOf_144 : decode cX5_halfOf 144 = .ok (.iload_n 1, 1) := by decide +kernel
theorem dX5_halfOf_145 : decode cX5_halfOf 145 = .ok (.iload 4, 2) := by decide +kernel
theorem dX5_halfOf_147 : decode cX5_halfOf 147 = .ok (.invokevirtual 92, 3) := by decide +kernel
theorem dX5_halfOf_150 : decode cX5_halfOf 150 = .ok (.ifCond .eq 29, 3) := by decide +kernel
theorem dX5_halfOf_153 : decode cX5_halfOf 153 = .ok (.aload_n 0, 1) := by decide +kernel
theorem dX5_halfOf_154 : decode cX5_halfOf 154 = .ok (.iload_n 1, 1) := by decide +kernel
theorem dX5_halfOf_155 : decode cX5_halfOf 155 = .ok (.iload 4, 2) := by decide +kernel
theorem dX5_halfOf_157 : decode cX5_halfOf 157 = .ok (.aload_n 0, 1) := by decide +kernel
theorem dX5_halfOf_158 : decode cX5_halfOf 158 = .ok (.iload_n 1, 1) := by decide +kernel
theorem dX5_halfOf_159 : decode cX5_halfOf 159 = .ok (.iload 4, 2) := by decide +kernel
theorem dX5_halfOf_161 : decode cX5_halfOf 161 = .ok (.iconst 1, 1) := by decide +kernel
theorem dX5_halfOf_162 : decode cX5_halfOf 162 = .ok (.invokevirtual 78, 3) := by decide +kernel
theorem dX5_halfOf_165 : decode cX5_halfOf 165 = .ok (.aload_n 0, 1) := by decide +kernel
theorem dX5_halfOf_166 : decode cX5_halfOf 166 = .ok (.iload_n 1, 1) := by decide +kernel
theorem dX5_halfOf_167 : decode cX5_halfOf 167 = .ok (.iload 4, 2) := by decide +kernel
theorem dX5_halfOf_169 : decode cX5_halfOf 169 = .ok (.iconst 0, 1) := by decide +kernel
theorem dX5_halfOf_170 : decode cX5_halfOf 170 = .ok (.invokevirtual 78, 3) := by decide +kernel
theorem dX5_halfOf_173 : decode cX5_halfOf 173 = .ok (.invokevirtual 113, 3) := by decide +kernel
theorem dX5_halfOf_176 : decode cX5_halfOf 176 = .ok (.goto 4, 3) := by decide +kernel
theorem dX5_halfOf_179 : decode cX5_halfOf 179 = .ok (.iconst 0, 1) := by decide +kernel
theorem dX5_halfOf_180 : decode cX5_halfOf 180 = .ok (.ireturn, 1) := by decide +kernel
theorem dX5_halfOf_181 : decode cX5_halfOf 181 = .ok (.aload_n 0, 1) := by decide +kernel
theorem dX5_halfOf_182 : decode cX5_halfOf 182 = .ok (.iconst 2, 1) := by decide +kernel
theorem dX5_halfOf_183 : decode cX5_halfOf 183 = .ok (.invokevirtual 57, 3) := by decide +kernel
theorem dX5_halfOf_186 : decode cX5_halfOf 186 = .ok (.ireturn, 1) := by decide +kernel
theorem h9_X5_halfOf : yX5_halfOf.cls ≠ "java/lang/invoke/MethodHandle" ∧ yX5_halfOf.cls ≠ "java/lang/invoke/VarHandle" ∧ (parseMethodDescriptor yX5_halfOf.desc).map (fun d => d.parameters.length) = some 3 := by decide +kernel
noncomputable def F_X5_halfOf (a0 : Nat) (x1 : Int32) (x2 : Int32) (x3 : Int32) (w : FW) : Option (Int32 × FW) :=
  fg (w.1 a0 = 6) inferInstance ((F_X5_isTicket a0 x1 w).bind (fun r1 => ((if r1 = 0 then some 1 else some 0) : Option (Int32)).bind (fun x5 => (if (gI (sI w 500 a0 0 x5) 500 a0 0) ≤ 0 then (F_X5_number x2 (sI w 500 a0 0 x5)).bind (fun r10 => (if x3 = 0 then (F_X5_isPunched a0 x1 r10 (sI w 500 a0 0 x5)).bind (fun r14 => (F_X5_number r14 (sI w 500 a0 0 x5)).bind (fun r17 => some (r17, (sI w 500 a0 0 x5)))) else (if x3 = 1 then (F_X5_half a0 x1 r10 0 (sI w 500 a0 0 x5)).bind (fun r21 => some (r21, (sI w 500 a0 0 x5))) else (if x3 = 2 then (F_X5_half a0 x1 r10 1 (sI w 500 a0 0 x5)).bind (fun r25 => some (r25, (sI w 500 a0 0 x5))) else (if x3 = 3 then (F_X5_holesOf a0 x1 r10 (sI w 500 a0 0 x5)).bind (fun r29 => some (r29, (sI w 500 a0 0 x5))) else (if x3 = 4 then (F_X5_leftOf a0 x1 r10 (sI w 500 a0 0 x5)).bind (fun r33 => some (r33, (sI w 500 a0 0 x5))) else (if x3 = 5 then (F_X5_half a0 x1 r10 2 (sI w 500 a0 0 x5)).bind (fun r37 => some (r37, (sI w 500 a0 0 x5))) else (if x3 = 6 then (F_X5_half a0 x1 r10 3 (sI w 500 a0 0 x5)).bind (fun r41 => some (r41, (sI w 500 a0 0 x5))) else (if x3 = 7 then (F_X5_isPunched a0 x1 r10 (sI w 500 a0 0 x5)).bind (fun r45 => (if r45 = 0 then some (0, (sI w 500 a0 0 x5)) else (F_X5_half a0 x1 r10 1 (sI w 500 a0 0 x5)).bind (fun r49 => (F_X5_half a0 x1 r10 0 (sI w 500 a0 0 x5)).bind (fun r52 => (F_X5_rightOf a0 x1 r10 r49 r52 (sI w 500 a0 0 x5)).bind (fun r55 => some (r55, (sI w 500 a0 0 x5))))))) else (F_X5_fails a0 2 (sI w 500 a0 0 x5)).bind (fun r58 => some (r58.1, r58.2))))))))))) else some (0, (sI w 500 a0 0 x5))))))
set_option maxHeartbeats 4000000 in
set_option maxRecDepth 100000 in
theorem c_X5_halfOf (l : Launch) (D : va_G) (cy : Nat → ClassId) (a0 : Nat) (x1 : Int32) (x2 : Int32) (x3 : Int32) (w : FW) (r : Int32 × FW) (hF : F_X5_halfOf a0 x1 x2 x3 w = some r) : fSpec l D cy yX5_halfOf cX5_halfOf 5 (some .int) { frames := 7, cells := 0, slots := 0, locals := 168 } [.ref a0, .int x1, .int x2, .int x3] w r.2 (some (.int r.1)) := by
  refine f_begin (by decide +kernel) (Nat.le_of_ble_eq_true rfl) (fun X hC hEn => ?_)
  unfold F_X5_halfOf at hF
  show fAt X 0 0 5 w [(0, .ref a0), (1, .int x1), (2, .int x2), (3, .int x3)] [] 0
  refine f_aload_n hC dX5_halfOf_0 rfl 0 rfl ?_
  refine f_aload_n hC dX5_halfOf_1 rfl 0 rfl ?_
  refine f_iload_n hC dX5_halfOf_2 rfl 1 rfl ?_
  obtain ⟨g3, hF⟩ := fg_open hF
  obtain ⟨r1, h2, hF⟩ := fb_open hF
  refine f_callV hC [.int x1] (c_X5_isTicket l D cy a0 x1 w r1 h2) q_1420 q_137 q_1417 q_1419 q_86 h9_X5_isTicket rfl (fSm.k (fSm.rf w) g3) ⟨Nat.le_of_ble_eq_true rfl, Nat.le_of_ble_eq_true rfl⟩ ⟨Nat.le_of_ble_eq_true rfl, Nat.le_of_ble_eq_true rfl⟩ (Nat.le_of_ble_eq_true rfl) rfl dX5_halfOf_3 (fun e4 => ?_)
  obtain ⟨x5, h6, hF⟩ := fb_open hF
  have K8 : fAt X 0 0 5 w [(0, .ref a0), (1, .int x1), (2, .int x2), (3, .int x3)] [.int x5, .ref a0] 14 := by
    refine f_putI hC 5 0 500 rfl (by decide) iX5 tyX5 tyX5_ok nmX5 q_1259 rfl rfl rfl rfl rfl (fSm.k (fSm.rf w) g3) dX5_halfOf_14 ?_
    refine f_aload_n hC dX5_halfOf_17 rfl 0 rfl ?_
    refine f_getI hC 5 0 500 rfl (by decide) iX5 q_1259 rfl rfl (fSm.k (fSm.rf w) g3) dX5_halfOf_18 ?_
    refine f_if_le hC 26 dX5_halfOf_21 (by decide) (fun c9 => ?_) (fun c9 => ?_)
    · replace hF := fi_pos hF c9
      refine f_iload_n hC dX5_halfOf_26 rfl 2 rfl ?_
      obtain ⟨r10, h11, hF⟩ := fb_open hF
      refine f_callS hC [.int x2] (c_X5_number l D cy x2 (sI w 500 a0 0 x5) r10 h11) q_1471 q_137 q_1469 q_1470 h9_X5_number ⟨Nat.le_of_ble_eq_true rfl, Nat.le_of_ble_eq_true rfl⟩ ⟨Nat.le_of_ble_eq_true rfl, Nat.le_of_ble_eq_true rfl⟩ (Nat.le_of_ble_eq_true rfl) rfl dX5_halfOf_27 (fun e12 => ?_)
      refine f_istore (L' := [(4, .int r10), (0, .ref a0), (1, .int x1), (2, .int x2), (3, .int x3)]) hC dX5_halfOf_30 (by decide) rfl ?_
      refine f_iload_n hC dX5_halfOf_32 rfl 4 rfl ?_
      by_cases c13 : x3 = 0
      · replace hF := fi_pos hF c13
        refine f_tabIn hC 80 dX5_halfOf_33 (by rw [c13] <;> decide) (by rw [c13] <;> decide) (by rw [c13] <;> rfl) (by decide) ?_
        refine f_aload_n hC dX5_halfOf_80 rfl 1 rfl ?_
        refine f_iload_n hC dX5_halfOf_81 rfl 2 rfl ?_
        refine f_iload hC dX5_halfOf_82 0 rfl ?_
        obtain ⟨r14, h15, hF⟩ := fb_open hF
        refine f_callV hC [.int x1, .int r10] (c_X5_isPunched l D cy a0 x1 r10 (sI w 500 a0 0 x5) r14 h15) q_1479 q_137 q_1476 q_1478 q_95 h9_X5_isPunched rfl (fSm.k (fSm.rf w) g3) ⟨Nat.le_of_ble_eq_true rfl, Nat.le_of_ble_eq_true rfl⟩ ⟨Nat.le_of_ble_eq_true rfl, Nat.le_of_ble_eq_true rfl⟩ (Nat.le_of_ble_eq_true rfl) rfl dX5_halfOf_84 (fun e16 => ?_)
        obtain ⟨r17, h18, hF⟩ := fb_open hF
        refine f_callS hC [.int r14] (c_X5_number l D cy r14 (sI w 500 a0 0 x5) r17 h18) q_1471 q_137 q_1469 q_1470 h9_X5_number ⟨Nat.le_of_ble_eq_true rfl, Nat.le_of_ble_eq_true rfl⟩ ⟨Nat.le_of_ble_eq_true rfl, Nat.le_of_ble_eq_true rfl⟩ (Nat.le_of_ble_eq_true rfl) rfl dX5_halfOf_87 (fun e19 => ?_)
        obtain rfl := Option.some.inj hF
        exact f_iret hC hEn (fSm.rf w) dX5_halfOf_90
      · replace hF := fi_neg hF c13
        by_cases c20 : x3 = 1
        · replace hF := fi_pos hF c20
          refine f_tabIn hC 91 dX5_halfOf_33 (by rw [c20] <;> decide) (by rw [c20] <;> decide) (by rw [c20] <;> rfl) (by decide) ?_
          refine f_aload_n hC dX5_halfOf_91 rfl 1 rfl ?_
          refine f_iload_n hC dX5_halfOf_92 rfl 2 rfl ?_
          refine f_iload hC dX5_halfOf_93 0 rfl ?_
          refine f_iconst (v := 0) hC dX5_halfOf_95 (by decide) ?_
          obtain ⟨r21, h22, hF⟩ := fb_open hF
          refine f_callV hC [.int x1, .int r10, .int 0] (c_X5_half l D cy a0 x1 r10 0 (sI w 500 a0 0 x5) r21 h22) q_1483 q_137 q_1480 q_1482 q_96 h9_X5_half rfl (fSm.k (fSm.rf w) g3) ⟨Nat.le_of_ble_eq_true rfl, Nat.le_of_ble_eq_true rfl⟩ ⟨Nat.le_of_ble_eq_true rfl, Nat.le_of_ble_eq_true rfl⟩ (Nat.le_of_ble_eq_true rfl) rfl dX5_halfOf_96 (fun e23 => ?_)
          obtain rfl := Option.some.inj hF
          exact f_iret hC hEn (fSm.rf w) dX5_halfOf_99
        · replace hF := fi_neg hF c20
          by_cases c24 : x3 = 2
          · replace hF := fi_pos hF c24
            refine f_tabIn hC 100 dX5_halfOf_33 (by rw [c24] <;> decide) (by rw [c24] <;> decide) (by rw [c24] <;> rfl) (by decide) ?_
            refine f_aload_n hC dX5_halfOf_100 rfl 1 rfl ?_
            refine f_iload_n hC dX5_halfOf_101 rfl 2 rfl ?_
            refine f_iload hC dX5_halfOf_102 0 rfl ?_
            refine f_iconst (v := 1) hC dX5_halfOf_104 (by decide) ?_
            obtain ⟨r25, h26, hF⟩ := fb_open hF
            refine f_callV hC [.int x1, .int r10, .int 1] (c_X5_half l D cy a0 x1 r10 1 (sI w 500 a0 0 x5) r25 h26) q_1483 q_137 q_1480 q_1482 q_96 h9_X5_half rfl (fSm.k (fSm.rf w) g3) ⟨Nat.le_of_ble_eq_true rfl, Nat.le_of_ble_eq_true rfl⟩ ⟨Nat.le_of_ble_eq_true rfl, Nat.le_of_ble_eq_true rfl⟩ (Nat.le_of_ble_eq_true rfl) rfl dX5_halfOf_105 (fun e27 => ?_)
            obtain rfl := Option.some.inj hF
            exact f_iret hC hEn (fSm.rf w) dX5_halfOf_108
          · replace hF := fi_neg hF c24
            by_cases c28 : x3 = 3
            · replace hF := fi_pos hF c28
              refine f_tabIn hC 109 dX5_halfOf_33 (by rw [c28] <;> decide) (by rw [c28] <;> decide) (by rw [c28] <;> rfl) (by decide) ?_
              refine f_aload_n hC dX5_halfOf_109 rfl 1 rfl ?_
              refine f_iload_n hC dX5_halfOf_110 rfl 2 rfl ?_
              refine f_iload hC dX5_halfOf_111 0 rfl ?_
              obtain ⟨r29, h30, hF⟩ := fb_open hF
              refine f_callV hC [.int x1, .int r10] (c_X5_holesOf l D cy a0 x1 r10 (sI w 500 a0 0 x5) r29 h30) q_1487 q_137 q_1484 q_1486 q_97 h9_X5_holesOf rfl (fSm.k (fSm.rf w) g3) ⟨Nat.le_of_ble_eq_true rfl, Nat.le_of_ble_eq_true rfl⟩ ⟨Nat.le_of_ble_eq_true rfl, Nat.le_of_ble_eq_true rfl⟩ (Nat.le_of_ble_eq_true rfl) rfl dX5_halfOf_113 (fun e31 => ?_)
              obtain rfl := Option.some.inj hF
              exact f_iret hC hEn (fSm.rf w) dX5_halfOf_116
            · replace hF := fi_neg hF c28
              by_cases c32 : x3 = 4
              · replace hF := fi_pos hF c32
                refine f_tabIn hC 117 dX5_halfOf_33 (by rw [c32] <;> decide) (by rw [c32] <;> decide) (by rw [c32] <;> rfl) (by decide) ?_
                refine f_aload_n hC dX5_halfOf_117 rfl 1 rfl ?_
                refine f_iload_n hC dX5_halfOf_118 rfl 2 rfl ?_
                refine f_iload hC dX5_halfOf_119 0 rfl ?_
                obtain ⟨r33, h34, hF⟩ := fb_open hF
                refine f_callV hC [.int x1, .int r10] (c_X5_leftOf l D cy a0 x1 r10 (sI w 500 a0 0 x5) r33 h34) q_1542 q_137 q_1539 q_1541 q_105 h9_X5_leftOf rfl (fSm.k (fSm.rf w) g3) ⟨Nat.le_of_ble_eq_true rfl, Nat.le_of_ble_eq_true rfl⟩ ⟨Nat.le_of_ble_eq_true rfl, Nat.le_of_ble_eq_true rfl⟩ (Nat.le_of_ble_eq_true rfl) rfl dX5_halfOf_121 (fun e35 => ?_)
                obtain rfl := Option.some.inj hF
                exact f_iret hC hEn (fSm.rf w) dX5_halfOf_124
              · replace hF := fi_neg hF c32
                by_cases c36 : x3 = 5
                · replace hF := fi_pos hF c36
                  refine f_tabIn hC 125 dX5_halfOf_33 (by rw [c36] <;> decide) (by rw [c36] <;> decide) (by rw [c36] <;> rfl) (by decide) ?_
                  refine f_aload_n hC dX5_halfOf_125 rfl 1 rfl ?_
                  refine f_iload_n hC dX5_halfOf_126 rfl 2 rfl ?_
                  refine f_iload hC dX5_halfOf_127 0 rfl ?_
                  refine f_iconst (v := 2) hC dX5_halfOf_129 (by decide) ?_
                  obtain ⟨r37, h38, hF⟩ := fb_open hF
                  refine f_callV hC [.int x1, .int r10, .int 2] (c_X5_half l D cy a0 x1 r10 2 (sI w 500 a0 0 x5) r37 h38) q_1483 q_137 q_1480 q_1482 q_96 h9_X5_half rfl (fSm.k (fSm.rf w) g3) ⟨Nat.le_of_ble_eq_true rfl, Nat.le_of_ble_eq_true rfl⟩ ⟨Nat.le_of_ble_eq_true rfl, Nat.le_of_ble_eq_true rfl⟩ (Nat.le_of_ble_eq_true rfl) rfl dX5_halfOf_130 (fun e39 => ?_)
                  obtain rfl := Option.some.inj hF
                  exact f_iret hC hEn (fSm.rf w) dX5_halfOf_133
                · replace hF := fi_neg hF c36
                  by_cases c40 : x3 = 6
                  · replace hF := fi_pos hF c40
                    refine f_tabIn hC 134 dX5_halfOf_33 (by rw [c40] <;> decide) (by rw [c40] <;> decide) (by rw [c40] <;> rfl) (by decide) ?_
                    refine f_aload_n hC dX5_halfOf_134 rfl 1 rfl ?_
                    refine f_iload_n hC dX5_halfOf_135 rfl 2 rfl ?_
                    refine f_iload hC dX5_halfOf_136 0 rfl ?_
                    refine f_iconst (v := 3) hC dX5_halfOf_138 (by decide) ?_
                    obtain ⟨r41, h42, hF⟩ := fb_open hF
                    refine f_callV hC [.int x1, .int r10, .int 3] (c_X5_half l D cy a0 x1 r10 3 (sI w 500 a0 0 x5) r41 h42) q_1483 q_137 q_1480 q_1482 q_96 h9_X5_half rfl (fSm.k (fSm.rf w) g3) ⟨Nat.le_of_ble_eq_true rfl, Nat.le_of_ble_eq_true rfl⟩ ⟨Nat.le_of_ble_eq_true rfl, Nat.le_of_ble_eq_true rfl⟩ (Nat.le_of_ble_eq_true rfl) rfl dX5_halfOf_139 (fun e43 => ?_)
                    obtain rfl := Option.some.inj hF
                    exact f_iret hC hEn (fSm.rf w) dX5_halfOf_142
                  · replace hF := fi_neg hF c40
                    by_cases c44 : x3 = 7
                    · replace hF := fi_pos hF c44
                      refine f_tabIn hC 143 dX5_halfOf_33 (by rw [c44] <;> decide) (by rw [c44] <;> decide) (by rw [c44] <;> rfl) (by decide) ?_
                      refine f_aload_n hC dX5_halfOf_143 rfl 1 rfl ?_
                      refine f_iload_n hC dX5_halfOf_144 rfl 2 rfl ?_
                      refine f_iload hC dX5_halfOf_145 0 rfl ?_
                      obtain ⟨r45, h46, hF⟩ := fb_open hF
                      refine f_callV hC [.int x1, .int r10] (c_X5_isPunched l D cy a0 x1 r10 (sI w 500 a0 0 x5) r45 h46) q_1479 q_137 q_1476 q_1478 q_95 h9_X5_isPunched rfl (fSm.k (fSm.rf w) g3) ⟨Nat.le_of_ble_eq_true rfl, Nat.le_of_ble_eq_true rfl⟩ ⟨Nat.le_of_ble_eq_true rfl, Nat.le_of_ble_eq_true rfl⟩ (Nat.le_of_ble_eq_true rfl) rfl dX5_halfOf_147 (fun e47 => ?_)
                      refine f_if_eq hC 179 dX5_halfOf_150 (by decide) (fun c48 => ?_) (fun c48 => ?_)
                      · replace hF := fi_pos hF c48
                        refine f_iconst (v := 0) hC dX5_halfOf_179 (by decide) ?_
                        obtain rfl := Option.some.inj hF
                        exact f_iret hC hEn (fSm.rf w) dX5_halfOf_180
                      · replace hF := fi_neg hF c48
                        refine f_aload_n hC dX5_halfOf_153 rfl 1 rfl ?_
                        refine f_iload_n hC dX5_halfOf_154 rfl 2 rfl ?_
                        refine f_iload hC dX5_halfOf_155 0 rfl ?_
                        refine f_aload_n hC dX5_halfOf_157 rfl 1 rfl ?_
                        refine f_iload_n hC dX5_halfOf_158 rfl 2 rfl ?_
                        refine f_iload hC dX5_halfOf_159 0 rfl ?_
                        refine f_iconst (v := 1) hC dX5_halfOf_161 (by decide) ?_
                        obtain ⟨r49, h50, hF⟩ := fb_open hF
                        refine f_callV hC [.int x1, .int r10, .int 1] (c_X5_half l D cy a0 x1 r10 1 (sI w 500 a0 0 x5) r49 h50) q_1483 q_137 q_1480 q_1482 q_96 h9_X5_half rfl (fSm.k (fSm.rf w) g3) ⟨Nat.le_of_ble_eq_true rfl, Nat.le_of_ble_eq_true rfl⟩ ⟨Nat.le_of_ble_eq_true rfl, Nat.le_of_ble_eq_true rfl⟩ (Nat.le_of_ble_eq_true rfl) rfl dX5_halfOf_162 (fun e51 => ?_)
                        refine f_aload_n hC dX5_halfOf_165 rfl 1 rfl ?_
                        refine f_iload_n hC dX5_halfOf_166 rfl 2 rfl ?_
                        refine f_iload hC dX5_halfOf_167 0 rfl ?_
                        refine f_iconst (v := 0) hC dX5_halfOf_169 (by decide) ?_
                        obtain ⟨r52, h53, hF⟩ := fb_open hF
                        refine f_callV hC [.int x1, .int r10, .int 0] (c_X5_half l D cy a0 x1 r10 0 (sI w 500 a0 0 x5) r52 h53) q_1483 q_137 q_1480 q_1482 q_96 h9_X5_half rfl (fSm.k (fSm.rf w) g3) ⟨Nat.le_of_ble_eq_true rfl, Nat.le_of_ble_eq_true rfl⟩ ⟨Nat.le_of_ble_eq_true rfl, Nat.le_of_ble_eq_true rfl⟩ (Nat.le_of_ble_eq_true rfl) rfl dX5_halfOf_170 (fun e54 => ?_)
                        obtain ⟨r55, h56, hF⟩ := fb_open hF
                        refine f_callV hC [.int x1, .int r10, .int r49, .int r52] (c_X5_rightOf l D cy a0 x1 r10 r49 r52 (sI w 500 a0 0 x5) r55 h56) q_1550 q_137 q_1547 q_1549 q_107 h9_X5_rightOf rfl (fSm.k (fSm.rf w) g3) ⟨Nat.le_of_ble_eq_true rfl, Nat.le_of_ble_eq_true rfl⟩ ⟨Nat.le_of_ble_eq_true rfl, Nat.le_of_ble_eq_true rfl⟩ (Nat.le_of_ble_eq_true rfl) rfl dX5_halfOf_173 (fun e57 => ?_)
                        refine f_goto hC 180 dX5_halfOf_176 (by decide) ?_
                        obtain rfl := Option.some.inj hF
                        exact f_iret hC hEn (fSm.rf w) dX5_halfOf_180
                    · replace hF := fi_neg hF c44
                      refine f_tabOut hC 181 dX5_halfOf_33 (ftab 0 7 (by decide) (by decide) (fun j h1 h2 => ?_)) (by decide) ?_
                      · rcases (show j = 0 ∨ j = 1 ∨ j = 2 ∨ j = 3 ∨ j = 4 ∨ j = 5 ∨ j = 6 ∨ j = 7 by omega) with rfl | rfl | rfl | rfl | rfl | rfl | rfl | rfl
                        · exact c13
                        · exact c20
                        · exact c24
                        · exact c28
                        · exact c32
                        · exact c36
                        · exact c40
                        · exact c44
                      refine f_aload_n hC dX5_halfOf_181 rfl 1 rfl ?_
                      refine f_iconst (v := 2) hC dX5_halfOf_182 (by decide) ?_
                      obtain ⟨r58, h59, hF⟩ := fb_open hF
                      refine f_callV hC [.int 2] (c_X5_fails l D cy a0 2 (sI w 500 a0 0 x5) r58 h59) q_1380 q_137 q_1377 q_1379 q_79 h9_X5_fails rfl (fSm.k (fSm.rf w) g3) ⟨Nat.le_of_ble_eq_true rfl, Nat.le_of_ble_eq_true rfl⟩ ⟨Nat.le_of_ble_eq_true rfl, Nat.le_of_ble_eq_true rfl⟩ (Nat.le_of_ble_eq_true rfl) rfl dX5_halfOf_183 (fun e60 => ?_)
                      obtain rfl := Option.some.inj hF
                      exact f_iret hC hEn (fSm.tr e60 (fSm.rf w)) dX5_halfOf_186
    · replace hF := fi_neg hF c9
      refine f_iconst (v := 0) hC dX5_halfOf_24 (by decide) ?_
      obtain rfl := Option.some.inj hF
      exact f_iret hC hEn (fSm.rf w) dX5_halfOf_25
  refine f_if_eq hC 13 dX5_halfOf_6 (by decide) (fun c61 => ?_) (fun c61 => ?_)
  · replace h6 := fi_pos h6 c61
    refine f_iconst (v := 1) hC dX5_halfOf_13 (by decide) ?_
    obtain rfl := Option.some.inj h6
    exact K8
  · replace h6 := fi_neg h6 c61
    refine f_iconst (v := 0) hC dX5_halfOf_9 (by decide) ?_
    refine f_goto hC 14 dX5_halfOf_10 (by decide) ?_
    obtain rfl := Option.some.inj h6
    exact K8
theorem dX5_readAt_0 : decode cX5_readAt 0 = .ok (.aload_n 0, 1) := by decide +kernel
theorem dX5_readAt_1 : decode cX5_readAt 1 = .ok (.aload_n 0, 1) := by decide +kernel
theorem dX5_readAt_2 : decode cX5_readAt 2 = .ok (.iload_n 1, 1) := by decide +kernel
theorem dX5_readAt_3 : decode cX5_readAt 3 = .ok (.invokevirtual 135, 3) := by decide +kernel
theorem dX5_readAt_6 : decode cX5_readAt 6 = .ok (.ifCond .ne 7, 3) := by decide +kernel
theorem dX5_readAt_9 : decode cX5_readAt 9 = .ok (.iconst 1, 1) := by decide +kernel
theorem dX5_readAt_10 : decode cX5_readAt 10 = .ok (.goto 36, 3) := by decide +kernel
theorem dX5_readAt_13 : decode cX5_readAt 13 = .ok (.aload_n 0, 1) := by decide +kernel
theorem dX5_readAt_14 : decode cX5_readAt 14 = .ok (.iload_n 1, 1) := by decide +kernel
theorem dX5_readAt_15 : decode cX5_readAt 15 = .ok (.iload_n 2, 1) := by decide +kernel
theorem dX5_readAt_16 : decode cX5_readAt 16 = .ok (.invokestatic 194, 3) := by decide +kernel
theorem dX5_readAt_19 : decode cX5_readAt 19 = .ok (.invokevirtual 92, 3) := by decide +kernel
theorem dX5_readAt_22 : decode cX5_readAt 22 = .ok (.ifCond .eq 23, 3) := by decide +kernel
theorem dX5_readAt_25 : decode cX5_readAt 25 = .ok (.iload_n 3, 1) := by decide +kernel
theorem dX5_readAt_26 : decode cX5_readAt 26 = .ok (.iconst 0, 1) := by decide +kernel
theorem dX5_readAt_27 : decode cX5_readAt 27 = .ok (.aload_n 0, 1) := by decide +kernel
theorem dX5_readAt_28 : decode cX5_readAt 28 = .ok (.iload_n 1, 1) := by decide +kernel
theorem dX5_readAt_29 : decode cX5_readAt 29 = .ok (.iconst 0, 1) := by decide +kernel
theorem dX5_readAt_30 : decode cX5_readAt 30 = .ok (.invokevirtual 70, 3) := by decide +kernel
theorem dX5_readAt_33 : decode cX5_readAt 33 = .ok (.iconst 1, 1) := by decide +kernel
theorem dX5_readAt_34 : decode cX5_readAt 34 = .ok (.isub, 1) := by decide +kernel
theorem dX5_readAt_35 : decode cX5_readAt 35 = .ok (.invokestatic 66, 3) := by decide +kernel
theorem dX5_readAt_38 : decode cX5_readAt 38 = .ok (.ifCond .eq 7, 3) := by decide +kernel
theorem dX5_readAt_41 : decode cX5_readAt 41 = .ok (.iconst 0, 1) := by decide +kernel
theorem dX5_readAt_42 : decode cX5_readAt 42 = .ok (.goto 4, 3) := by decide +kernel
theorem dX5_readAt_45 : decode cX5_readAt 45 = .ok (.iconst 2, 1) := by decide +kernel
theorem dX5_readAt_46 : decode cX5_readAt 46 = .ok (.putfield 41, 3) := by decide +kernel
theorem dX5_readAt_49 : decode cX5_readAt 49 = .ok (.aload_n 0, 1) := by decide +kernel
theorem dX5_readAt_50 : decode cX5_readAt 50 = .ok (.getfield 41, 3) := by decide +kernel
theorem dX5_readAt_53 : decode cX5_readAt 53 = .ok (.ifCond .le 7, 3) := by decide +kernel
theorem dX5_readAt_56 : decode cX5_readAt 56 = .ok (.iconst 0, 1) := by decide +kernel
theorem dX5_readAt_57 : decode cX5_readAt 57 = .ok (.goto 14, 3) := by decide +kernel
theorem dX5_readAt_60 : decode cX5_readAt 60 = .ok (.aload_n 0, 1) := by decide +kernel
theorem dX5_readAt_61 : decode cX5_readAt 61 = .ok (.iload_n 1, 1) := by decide +kernel
theorem dX5_readAt_62 : decode cX5_readAt 62 = .ok (.iload_n 2, 1) := by decide +kernel
theorem dX5_readAt_63 : decode cX5_readAt 63 = .ok (.invokestatic 194, 3) := by decide +kernel
theorem dX5_readAt_66 : decode cX5_readAt 66 = .ok (.iload_n 3, 1) := by decide +kernel
theorem dX5_readAt_67 : decode cX5_readAt 67 = .ok (.invokevirtual 116, 3) := by decide +kernel
theorem dX5_readAt_70 : decode cX5_readAt 70 = .ok (.i2c, 1) := by decide +kernel
theorem dX5_readAt_71 : decode cX5_readAt 71 = .ok (.ireturn, 1) := by decide +kernel
theorem h9_X5_readAt : yX5_readAt.cls ≠ "java/lang/invoke/MethodHandle" ∧ yX5_readAt.cls ≠ "java/lang/invoke/VarHandle" ∧ (parseMethodDescriptor yX5_readAt.desc).map (fun d => d.parameters.length) = some 3 := by decide +kernel
noncomputable def F_X5_readAt (a0 : Nat) (x1 : Int32) (x2 : Int32) (x3 : Int32) (w : FW) : Option (Int32 × FW) :=
  fg (w.1 a0 = 6) inferInstance ((F_X5_isTicket a0 x1 w).bind (fun r1 => ((if r1 = 0 then some 1 else (F_X5_number x2 w).bind (fun r18 => (F_X5_isPunched a0 x1 r18 w).bind (fun r21 => (if r21 = 0 then some 2 else (F_X5_of a0 x1 0 w).bind (fun r25 => (F_X5_in x3 0 (r25 - 1) w).bind (fun r28 => (if r28 = 0 then some 2 else some 0))))))) : Option (Int32)).bind (fun x5 => (if (gI (sI w 500 a0 0 x5) 500 a0 0) ≤ 0 then (F_X5_number x2 (sI w 500 a0 0 x5)).bind (fun r10 => (F_X5_reads a0 x1 r10 x3 (sI w 500 a0 0 x5)).bind (fun r13 => fg (fch (fch r13) = (fch r13)) inferInstance (some ((fch r13), (sI w 500 a0 0 x5))))) else some (0, (sI w 500 a0 0 x5))))))
set_option maxHeartbeats 4000000 in
set_option maxRecDepth 100000 in
theorem c_X5_readAt (l : Launch) (D : va_G) (cy : Nat → ClassId) (a0 : Nat) (x1 : Int32) (x2 : Int32) (x3 : Int32) (w : FW) (r : Int32 × FW) (hF : F_X5_readAt a0 x1 x2 x3 w = some r) : fSpec l D cy yX5_readAt cX5_readAt 4 (some .char) { frames := 7, cells := 0, slots := 0, locals := 165 } [.ref a0, .int x1, .int x2, .int x3] w r.2 (some (.int r.1)) := by
  refine f_begin (by decide +kernel) (Nat.le_of_ble_eq_true rfl) (fun X hC hEn => ?_)
  unfold F_X5_readAt at hF
  show fAt X 0 0 4 w [(0, .ref a0), (1, .int x1), (2, .int x2), (3, .int x3)] [] 0
  refine f_aload_n hC dX5_readAt_0 rfl 0 rfl ?_
  refine f_aload_n hC dX5_readAt_1 rfl 0 rfl ?_
  refine f_iload_n hC dX5_readAt_2 rfl 1 rfl ?_
  obtain ⟨g3, hF⟩ := fg_open hF
  obtain ⟨r1, h2, hF⟩ := fb_open hF
  refine f_callV hC [.int x1] (c_X5_isTicket l D cy a0 x1 w r1 h2) q_1420 q_137 q_1417 q_1419 q_86 h9_X5_isTicket rfl (fSm.k (fSm.rf w) g3) ⟨Nat.le_of_ble_eq_true rfl, Nat.le_of_ble_eq_true rfl⟩ ⟨Nat.le_of_ble_eq_true rfl, Nat.le_of_ble_eq_true rfl⟩ (Nat.le_of_ble_eq_true rfl) rfl dX5_readAt_3 (fun e4 => ?_)
  obtain ⟨x5, h6, hF⟩ := fb_open hF
  have K8 : fAt X 0 0 4 w [(0, .ref a0), (1, .int x1), (2, .int x2), (3, .int x3)] [.int x5, .ref a0] 46 := by
    refine f_putI hC 5 0 500 rfl (by decide) iX5 tyX5 tyX5_ok nmX5 q_1259 rfl rfl rfl rfl rfl (fSm.k (fSm.rf w) g3) dX5_readAt_46 ?_
    refine f_aload_n hC dX5_readAt_49 rfl 0 rfl ?_
    refine f_getI hC 5 0 500 rfl (by decide) iX5 q_1259 rfl rfl (fSm.k (fSm.rf w) g3) dX5_readAt_50 ?_
    refine f_if_le hC 60 dX5_readAt_53 (by decide) (fun c9 => ?_) (fun c9 => ?_)
    · replace hF := fi_pos hF c9
      refine f_aload_n hC dX5_readAt_60 rfl 0 rfl ?_
      refine f_iload_n hC dX5_readAt_61 rfl 1 rfl ?_
      refine f_iload_n hC dX5_readAt_62 rfl 2 rfl ?_
      obtain ⟨r10, h11, hF⟩ := fb_open hF
      refine f_callS hC [.int x2] (c_X5_number l D cy x2 (sI w 500 a0 0 x5) r10 h11) q_1471 q_137 q_1469 q_1470 h9_X5_number ⟨Nat.le_of_ble_eq_true rfl, Nat.le_of_ble_eq_true rfl⟩ ⟨Nat.le_of_ble_eq_true rfl, Nat.le_of_ble_eq_true rfl⟩ (Nat.le_of_ble_eq_true rfl) rfl dX5_readAt_63 (fun e12 => ?_)
      refine f_iload_n hC dX5_readAt_66 rfl 3 rfl ?_
      obtain ⟨r13, h14, hF⟩ := fb_open hF
      refine f_callV hC [.int x1, .int r10, .int x3] (c_X5_reads l D cy a0 x1 r10 x3 (sI w 500 a0 0 x5) r13 h14) q_1565 q_137 q_1562 q_1564 q_109 h9_X5_reads rfl (fSm.k (fSm.rf w) g3) ⟨Nat.le_of_ble_eq_true rfl, Nat.le_of_ble_eq_true rfl⟩ ⟨Nat.le_of_ble_eq_true rfl, Nat.le_of_ble_eq_true rfl⟩ (Nat.le_of_ble_eq_true rfl) rfl dX5_readAt_67 (fun e15 => ?_)
      refine f_i2c hC dX5_readAt_70 ?_
      obtain ⟨g16, hF⟩ := fg_open hF
      obtain rfl := Option.some.inj hF
      exact f_zret hC hEn (fSm.rf w) (nar_c g16) dX5_readAt_71
    · replace hF := fi_neg hF c9
      refine f_iconst (v := 0) hC dX5_readAt_56 (by decide) ?_
      refine f_goto hC 71 dX5_readAt_57 (by decide) ?_
      obtain rfl := Option.some.inj hF
      exact f_zret hC hEn (fSm.rf w) (nar_c (by decide)) dX5_readAt_71
  refine f_if_ne hC 13 dX5_readAt_6 (by decide) (fun c17 => ?_) (fun c17 => ?_)
  · replace h6 := fi_neg h6 c17
    refine f_aload_n hC dX5_readAt_13 rfl 0 rfl ?_
    refine f_iload_n hC dX5_readAt_14 rfl 1 rfl ?_
    refine f_iload_n hC dX5_readAt_15 rfl 2 rfl ?_
    obtain ⟨r18, h19, h6⟩ := fb_open h6
    refine f_callS hC [.int x2] (c_X5_number l D cy x2 w r18 h19) q_1471 q_137 q_1469 q_1470 h9_X5_number ⟨Nat.le_of_ble_eq_true rfl, Nat.le_of_ble_eq_true rfl⟩ ⟨Nat.le_of_ble_eq_true rfl, Nat.le_of_ble_eq_true rfl⟩ (Nat.le_of_ble_eq_true rfl) rfl dX5_readAt_16 (fun e20 => ?_)
    obtain ⟨r21, h22, h6⟩ := fb_open h6
    refine f_callV hC [.int x1, .int r18] (c_X5_isPunched l D cy a0 x1 r18 w r21 h22) q_1479 q_137 q_1476 q_1478 q_95 h9_X5_isPunched rfl (fSm.k (fSm.rf w) g3) ⟨Nat.le_of_ble_eq_true rfl, Nat.le_of_ble_eq_true rfl⟩ ⟨Nat.le_of_ble_eq_true rfl, Nat.le_of_ble_eq_true rfl⟩ (Nat.le_of_ble_eq_true rfl) rfl dX5_readAt_19 (fun e23 => ?_)
    refine f_if_eq hC 45 dX5_readAt_22 (by decide) (fun c24 => ?_) (fun c24 => ?_)
    · replace h6 := fi_pos h6 c24
      refine f_iconst (v := 2) hC dX5_readAt_45 (by decide) ?_
      obtain rfl := Option.some.inj h6
      exact K8
    · replace h6 := fi_neg h6 c24
      refine f_iload_n hC dX5_readAt_25 rfl 3 rfl ?_
      refine f_iconst (v := 0) hC dX5_readAt_26 (by decide) ?_
      refine f_aload_n hC dX5_readAt_27 rfl 0 rfl ?_
      refine f_iload_n hC dX5_readAt_28 rfl 1 rfl ?_
      refine f_iconst (v := 0) hC dX5_readAt_29 (by decide) ?_
      obtain ⟨r25, h26, h6⟩ := fb_open h6
      refine f_callV hC [.int x1, .int 0] (c_X5_of l D cy a0 x1 0 w r25 h26) q_1452 q_137 q_1449 q_1451 q_91 h9_X5_of rfl (fSm.k (fSm.rf w) g3) ⟨Nat.le_of_ble_eq_true rfl, Nat.le_of_ble_eq_true rfl⟩ ⟨Nat.le_of_ble_eq_true rfl, Nat.le_of_ble_eq_true rfl⟩ (Nat.le_of_ble_eq_true rfl) rfl dX5_readAt_30 (fun e27 => ?_)
      refine f_iconst (v := 1) hC dX5_readAt_33 (by decide) ?_
      refine f_isub hC dX5_readAt_34 ?_
      obtain ⟨r28, h29, h6⟩ := fb_open h6
      refine f_callS hC [.int x3, .int 0, .int (r25 - 1)] (c_X5_in l D cy x3 0 (r25 - 1) w r28 h29) q_1357 q_137 q_1355 q_1356 h9_X5_in ⟨Nat.le_of_ble_eq_true rfl, Nat.le_of_ble_eq_true rfl⟩ ⟨Nat.le_of_ble_eq_true rfl, Nat.le_of_ble_eq_true rfl⟩ (Nat.le_of_ble_eq_true rfl) rfl dX5_readAt_35 (fun e30 => ?_)
      refine f_if_eq hC 45 dX5_readAt_38 (by decide) (fun c31 => ?_) (fun c31 => ?_)
      · replace h6 := fi_pos h6 c31
        refine f_iconst (v := 2) hC dX5_readAt_45 (by decide) ?_
        obtain rfl := Option.some.inj h6
        exact K8
      · replace h6 := fi_neg h6 c31
        refine f_iconst (v := 0) hC dX5_readAt_41 (by decide) ?_
        refine f_goto hC 46 dX5_readAt_42 (by decide) ?_
        obtain rfl := Option.some.inj h6
        exact K8
  · replace h6 := fi_pos h6 c17
    refine f_iconst (v := 1) hC dX5_readAt_9 (by decide) ?_
    refine f_goto hC 46 dX5_readAt_10 (by decide) ?_
    obtain rfl := Option.some.inj h6
    exact K8
theorem dX5_doAgree_0 : decode cX5_doAgree 0 = .ok (.aload_n 0, 1) := by decide +kernel
theorem dX5_doAgree_1 : decode cX5_doAgree 1 = .ok (.aload_n 0, 1) := by decide +kernel
theorem dX5_doAgree_2 : decode cX5_doAgree 2 = .ok (.iload_n 1, 1) := by decide +kernel
theorem dX5_doAgree_3 : decode cX5_doAgree 3 = .ok (.invokevirtual 135, 3) := by decide +kernel
theorem dX5_doAgree_6 : decode cX5_doAgree 6 = .ok (.ifCond .eq 7, 3) := by decide +kernel
theorem dX5_doAgree_9 : decode cX5_doAgree 9 = .ok (.iconst 0, 1) := by decide +kernel
theorem dX5_doAgree_10 : decode cX5_doAgree 10 = .ok (.goto 4, 3) := by decide +kernel
theorem dX5_doAgree_13 : decode cX5_doAgree 13 = .ok (.iconst 1, 1) := by decide +kernel
theorem dX5_doAgree_14 : decode cX5_doAgree 14 = .ok (.putfield 41, 3) := by decide +kernel
theorem dX5_doAgree_17 : decode cX5_doAgree 17 = .ok (.aload_n 0, 1) := by decide +kernel
theorem dX5_doAgree_18 : decode cX5_doAgree 18 = .ok (.getfield 41, 3) := by decide +kernel
theorem dX5_doAgree_21 : decode cX5_doAgree 21 = .ok (.ifCond .gt 21, 3) := by decide +kernel
theorem dX5_doAgree_24 : decode cX5_doAgree 24 = .ok (.aload_n 0, 1) := by decide +kernel
theorem dX5_doAgree_25 : decode cX5_doAgree 25 = .ok (.iload_n 1, 1) := by decide +kernel
theorem dX5_doAgree_26 : decode cX5_doAgree 26 = .ok (.iconst 0, 1) := by decide +kernel
theorem dX5_doAgree_27 : decode cX5_doAgree 27 = .ok (.invokevirtual 92, 3) := by decide +kernel
theorem dX5_doAgree_30 : decode cX5_doAgree 30 = .ok (.ifCond .eq 12, 3) := by decide +kernel
theorem dX5_doAgree_33 : decode cX5_doAgree 33 = .ok (.aload_n 0, 1) := by decide +kernel
theorem dX5_doAgree_34 : decode cX5_doAgree 34 = .ok (.iload_n 1, 1) := by decide +kernel
theorem dX5_doAgree_35 : decode cX5_doAgree 35 = .ok (.iconst 1, 1) := by decide +kernel
theorem dX5_doAgree_36 : decode cX5_doAgree 36 = .ok (.invokevirtual 92, 3) := by decide +kernel
theorem dX5_doAgree_39 : decode cX5_doAgree 39 = .ok (.ifCond .ne 5, 3) := by decide +kernel
theorem dX5_doAgree_42 : decode cX5_doAgree 42 = .ok (.iconst 0, 1) := by decide +kernel
theorem dX5_doAgree_43 : decode cX5_doAgree 43 = .ok (.ireturn, 1) := by decide +kernel
theorem dX5_doAgree_44 : decode cX5_doAgree 44 = .ok (.iconst 0, 1) := by decide +kernel
theorem dX5_doAgree_45 : decode cX5_doAgree 45 = .ok (.istore_n 3, 1) := by decide +kernel
theorem dX5_doAgree_46 : decode cX5_doAgree 46 = .ok (.iload_n 3, 1) := by decide +kernel
theorem dX5_doAgree_47 : decode cX5_doAgree 47 = .ok (.aload_n 0, 1) := by decide +kernel
theorem dX5_doAgree_48 : decode cX5_doAgree 48 = .ok (.iload_n 1, 1) := by decide +kernel
theorem dX5_doAgree_49 : decode cX5_doAgree 49 = .ok (.iconst 0, 1) := by decide +kernel
theorem dX5_doAgree_50 : decode cX5_doAgree 50 = .ok (.invokevirtual 70, 3) := by decide +kernel
theorem dX5_doAgree_53 : decode cX5_doAgree 53 = .ok (.if_icmp .ge 28, 3) := by decide +kernel
theorem dX5_doAgree_56 : decode cX5_doAgree 56 = .ok (.aload_n 0, 1) := by decide +kernel
theorem dX5_doAgree_57 : decode cX5_doAgree 57 = .ok (.iload_n 1, 1) := by decide +kernel
theorem dX5_doAgree_58 : decode cX5_doAgree 58 = .ok (.iconst 0, 1) := by decide +kernel
theorem dX5_doAgree_59 : decode cX5_doAgree 59 = .ok (.iload_n 3, 1) := by decide +kernel
theorem dX5_doAgree_60 : decode cX5_doAgree 60 = .ok (.invokevirtual 116, 3) := by decide +kernel
theorem dX5_doAgree_63 : decode cX5_doAgree 63 = .ok (.aload_n 0, 1) := by decide +kernel
theorem dX5_doAgree_64 : decode cX5_doAgree 64 = .ok (.iload_n 1, 1) := by decide +kernel
theorem dX5_doAgree_65 : decode cX5_doAgree 65 = .ok (.iconst 1, 1) := by decide +kernel
theorem dX5_doAgree_66 : decode cX5_doAgree 66 = .ok (.iload_n 3, 1) := by decide +kernel
theorem dX5_doAgree_67 : decode cX5_doAgree 67 = .ok (.invokevirtual 116, 3) := by decide +kernel
theorem dX5_doAgree_70 : decode cX5_doAgree 70 = .ok (.if_icmp .eq 5, 3) := by decide +kernel
theorem dX5_doAgree_73 : decode cX5_doAgree 73 = .ok (.iconst 0, 1) := by decide +kernel
theorem dX5_doAgree_74 : decode cX5_doAgree 74 = .ok (.ireturn, 1) := by decide +kernel
theorem dX5_doAgree_75 : decode cX5_doAgree 75 = .ok (.iinc 3 1, 3) := by decide +kernel
theorem dX5_doAgree_78 : decode cX5_doAgree 78 = .ok (.goto (-32), 3) := by decide +kernel
theorem dX5_doAgree_81 : decode cX5_doAgree 81 = .ok (.iconst 1, 1) := by decide +kernel
theorem dX5_doAgree_82 : decode cX5_doAgree 82 = .ok (.ireturn, 1) := by decide +kernel
theorem h9_X5_doAgree : yX5_doAgree.cls ≠ "java/lang/invoke/MethodHandle" ∧ yX5_doAgree.cls ≠ "java/lang/invoke/VarHandle" ∧ (parseMethodDescriptor yX5_doAgree.desc).map (fun d => d.parameters.length) = some 2 := by decide +kernel
noncomputable def F_X5_doAgree (a0 : Nat) (x1 : Int32) (x2 : Int32) (w : FW) : Option (Int32 × FW) :=
  fg (w.1 a0 = 6) inferInstance ((F_X5_isTicket a0 x1 w).bind (fun r1 => ((if r1 = 0 then some 1 else some 0) : Option (Int32)).bind (fun x5 => (if 0 < (gI (sI w 500 a0 0 x5) 500 a0 0) then some (0, (sI w 500 a0 0 x5)) else (F_X5_isPunched a0 x1 0 (sI w 500 a0 0 x5)).bind (fun r10 => (if r10 = 0 then some (0, (sI w 500 a0 0 x5)) else (F_X5_isPunched a0 x1 1 (sI w 500 a0 0 x5)).bind (fun r14 => (if r14 = 0 then some (0, (sI w 500 a0 0 x5)) else (fLoop (σ := Int32) (ρ := (Unit) ⊕ (Int32 × FW)) (fun s18 => (F_X5_of a0 x1 0 (sI w 500 a0 0 x5)).bind (fun r27 => (if r27 ≤ s18 then some (.inr (.inl ())) else (F_X5_reads a0 x1 0 s18 (sI w 500 a0 0 x5)).bind (fun r31 => (F_X5_reads a0 x1 1 s18 (sI w 500 a0 0 x5)).bind (fun r34 => (if r31 = r34 then some (.inl (s18 + 1)) else some (.inr (.inr (0, (sI w 500 a0 0 x5)))))))))) 0).bind (fun x24 => fse x24 (fun z38 => some (1, (sI w 500 a0 0 x5))) (fun q9 => some q9))))))))))
set_option maxHeartbeats 4000000 in
set_option maxRecDepth 100000 in
theorem c_X5_doAgree (l : Launch) (D : va_G) (cy : Nat → ClassId) (a0 : Nat) (x1 : Int32) (x2 : Int32) (w : FW) (r : Int32 × FW) (hF : F_X5_doAgree a0 x1 x2 w = some r) : fSpec l D cy yX5_doAgree cX5_doAgree 4 (some .boolean) { frames := 7, cells := 0, slots := 0, locals := 165 } [.ref a0, .int x1, .int x2] w r.2 (some (.int r.1)) := by
  refine f_begin (by decide +kernel) (Nat.le_of_ble_eq_true rfl) (fun X hC hEn => ?_)
  unfold F_X5_doAgree at hF
  show fAt X 0 0 4 w [(0, .ref a0), (1, .int x1), (2, .int x2)] [] 0
  refine f_aload_n hC dX5_doAgree_0 rfl 0 rfl ?_
  refine f_aload_n hC dX5_doAgree_1 rfl 0 rfl ?_
  refine f_iload_n hC dX5_doAgree_2 rfl 1 rfl ?_
  obtain ⟨g3, hF⟩ := fg_open hF
  obtain ⟨r1, h2, hF⟩ := fb_open hF
  refine f_callV hC [.int x1] (c_X5_isTicket l D cy a0 x1 w r1 h2) q_1420 q_137 q_1417 q_1419 q_86 h9_X5_isTicket rfl (fSm.k (fSm.rf w) g3) ⟨Nat.le_of_ble_eq_true rfl, Nat.le_of_ble_eq_true rfl⟩ ⟨Nat.le_of_ble_eq_true rfl, Nat.le_of_ble_eq_true rfl⟩ (Nat.le_of_ble_eq_true rfl) rfl dX5_doAgree_3 (fun e4 => ?_)
  obtain ⟨x5, h6, hF⟩ := fb_open hF
  have K8 : fAt X 0 0 4 w [(0, .ref a0), (1, .int x1)] [.int x5, .ref a0] 14 := by
    refine f_putI hC 5 0 500 rfl (by decide) iX5 tyX5 tyX5_ok nmX5 q_1259 rfl rfl rfl rfl rfl (fSm.k (fSm.rf w) g3) dX5_doAgree_14 ?_
    refine f_aload_n hC dX5_doAgree_17 rfl 0 rfl ?_
    refine f_getI hC 5 0 500 rfl (by decide) iX5 q_1259 rfl rfl (fSm.k (fSm.rf w) g3) dX5_doAgree_18 ?_
    refine f_if_gt hC 42 dX5_doAgree_21 (by decide) (fun c9 => ?_) (fun c9 => ?_)
    · replace hF := fi_pos hF c9
      refine f_iconst (v := 0) hC dX5_doAgree_42 (by decide) ?_
      obtain rfl := Option.some.inj hF
      exact f_zret hC hEn (fSm.rf w) (nar_z (by decide)) dX5_doAgree_43
    · replace hF := fi_neg hF c9
      refine f_aload_n hC dX5_doAgree_24 rfl 0 rfl ?_
      refine f_iload_n hC dX5_doAgree_25 rfl 1 rfl ?_
      refine f_iconst (v := 0) hC dX5_doAgree_26 (by decide) ?_
      obtain ⟨r10, h11, hF⟩ := fb_open hF
      refine f_callV hC [.int x1, .int 0] (c_X5_isPunched l D cy a0 x1 0 (sI w 500 a0 0 x5) r10 h11) q_1479 q_137 q_1476 q_1478 q_95 h9_X5_isPunched rfl (fSm.k (fSm.rf w) g3) ⟨Nat.le_of_ble_eq_true rfl, Nat.le_of_ble_eq_true rfl⟩ ⟨Nat.le_of_ble_eq_true rfl, Nat.le_of_ble_eq_true rfl⟩ (Nat.le_of_ble_eq_true rfl) rfl dX5_doAgree_27 (fun e12 => ?_)
      refine f_if_eq hC 42 dX5_doAgree_30 (by decide) (fun c13 => ?_) (fun c13 => ?_)
      · replace hF := fi_pos hF c13
        refine f_iconst (v := 0) hC dX5_doAgree_42 (by decide) ?_
        obtain rfl := Option.some.inj hF
        exact f_zret hC hEn (fSm.rf w) (nar_z (by decide)) dX5_doAgree_43
      · replace hF := fi_neg hF c13
        refine f_aload_n hC dX5_doAgree_33 rfl 0 rfl ?_
        refine f_iload_n hC dX5_doAgree_34 rfl 1 rfl ?_
        refine f_iconst (v := 1) hC dX5_doAgree_35 (by decide) ?_
        obtain ⟨r14, h15, hF⟩ := fb_open hF
        refine f_callV hC [.int x1, .int 1] (c_X5_isPunched l D cy a0 x1 1 (sI w 500 a0 0 x5) r14 h15) q_1479 q_137 q_1476 q_1478 q_95 h9_X5_isPunched rfl (fSm.k (fSm.rf w) g3) ⟨Nat.le_of_ble_eq_true rfl, Nat.le_of_ble_eq_true rfl⟩ ⟨Nat.le_of_ble_eq_true rfl, Nat.le_of_ble_eq_true rfl⟩ (Nat.le_of_ble_eq_true rfl) rfl dX5_doAgree_36 (fun e16 => ?_)
        refine f_if_ne hC 44 dX5_doAgree_39 (by decide) (fun c17 => ?_) (fun c17 => ?_)
        · replace hF := fi_neg hF c17
          refine f_iconst (v := 0) hC dX5_doAgree_44 (by decide) ?_
          refine f_istore_n (L' := [(3, .int 0), (0, .ref a0), (1, .int x1)]) hC dX5_doAgree_45 rfl (by decide) rfl ?_
          obtain ⟨x24, h25, hF⟩ := fb_open hF
          have K26 : ∀ z38, x24 = .inl z38 → fAt X 0 0 4 (sI w 500 a0 0 x5) [] [] 81 := by
            intro z38 hz9
            subst hz9
            refine f_iconst (v := 1) hC dX5_doAgree_81 (by decide) ?_
            obtain rfl := Option.some.inj hF
            exact f_zret hC hEn (fSm.rf w) (nar_z (by decide)) dX5_doAgree_82
          refine f_sub (L' := [(0, .ref a0), (1, .int x1), (3, .int 0)]) [1, 2, 0] rfl ?_
          refine fLoop_ind (fun (s18 : Int32) => fAt X 0 0 4 (sI w 500 a0 0 x5) [(0, .ref a0), (1, .int x1), (3, .int s18)] [] 46) (fun s18 y23 h19 go20 ou21 => ?_) h25
          refine f_iload_n hC dX5_doAgree_46 rfl 2 rfl ?_
          refine f_aload_n hC dX5_doAgree_47 rfl 0 rfl ?_
          refine f_iload_n hC dX5_doAgree_48 rfl 1 rfl ?_
          refine f_iconst (v := 0) hC dX5_doAgree_49 (by decide) ?_
          obtain ⟨r27, h28, h19⟩ := fb_open h19
          refine f_callV hC [.int x1, .int 0] (c_X5_of l D cy a0 x1 0 (sI w 500 a0 0 x5) r27 h28) q_1452 q_137 q_1449 q_1451 q_91 h9_X5_of rfl (fSm.k (fSm.rf w) g3) ⟨Nat.le_of_ble_eq_true rfl, Nat.le_of_ble_eq_true rfl⟩ ⟨Nat.le_of_ble_eq_true rfl, Nat.le_of_ble_eq_true rfl⟩ (Nat.le_of_ble_eq_true rfl) rfl dX5_doAgree_50 (fun e29 => ?_)
          refine f_icmp_ge hC 81 dX5_doAgree_53 (by decide) (fun c30 => ?_) (fun c30 => ?_)
          · replace h19 := fi_pos h19 c30
            obtain rfl := Option.some.inj h19
            have eo := ou21 _ rfl
            refine f_sub (L' := []) [] rfl ?_
            exact K26 _ eo.symm
          · replace h19 := fi_neg h19 c30
            refine f_aload_n hC dX5_doAgree_56 rfl 0 rfl ?_
            refine f_iload_n hC dX5_doAgree_57 rfl 1 rfl ?_
            refine f_iconst (v := 0) hC dX5_doAgree_58 (by decide) ?_
            refine f_iload_n hC dX5_doAgree_59 rfl 2 rfl ?_
            obtain ⟨r31, h32, h19⟩ := fb_open h19
            refine f_callV hC [.int x1, .int 0, .int s18] (c_X5_reads l D cy a0 x1 0 s18 (sI w 500 a0 0 x5) r31 h32) q_1565 q_137 q_1562 q_1564 q_109 h9_X5_reads rfl (fSm.k (fSm.rf w) g3) ⟨Nat.le_of_ble_eq_true rfl, Nat.le_of_ble_eq_true rfl⟩ ⟨Nat.le_of_ble_eq_true rfl, Nat.le_of_ble_eq_true rfl⟩ (Nat.le_of_ble_eq_true rfl) rfl dX5_doAgree_60 (fun e33 => ?_)
            refine f_aload_n hC dX5_doAgree_63 rfl 0 rfl ?_
            refine f_iload_n hC dX5_doAgree_64 rfl 1 rfl ?_
            refine f_iconst (v := 1) hC dX5_doAgree_65 (by decide) ?_
            refine f_iload_n hC dX5_doAgree_66 rfl 2 rfl ?_
            obtain ⟨r34, h35, h19⟩ := fb_open h19
            refine f_callV hC [.int x1, .int 1, .int s18] (c_X5_reads l D cy a0 x1 1 s18 (sI w 500 a0 0 x5) r34 h35) q_1565 q_137 q_1562 q_1564 q_109 h9_X5_reads rfl (fSm.k (fSm.rf w) g3) ⟨Nat.le_of_ble_eq_true rfl, Nat.le_of_ble_eq_true rfl⟩ ⟨Nat.le_of_ble_eq_true rfl, Nat.le_of_ble_eq_true rfl⟩ (Nat.le_of_ble_eq_true rfl) rfl dX5_doAgree_67 (fun e36 => ?_)
            refine f_icmp_eq hC 75 dX5_doAgree_70 (by decide) (fun c37 => ?_) (fun c37 => ?_)
            · replace h19 := fi_pos h19 c37
              refine f_iinc (L' := [(3, .int (s18 + 1)), (0, .ref a0), (1, .int x1)]) hC dX5_doAgree_75 2 rfl rfl (by decide) rfl ?_
              refine f_goto hC 46 dX5_doAgree_78 (by decide) ?_
              obtain rfl := Option.some.inj h19
              refine f_sub (L' := [(0, .ref a0), (1, .int x1), (3, .int (s18 + 1))]) [1, 2, 0] rfl ?_
              exact go20 _ rfl
            · replace h19 := fi_neg h19 c37
              refine f_iconst (v := 0) hC dX5_doAgree_73 (by decide) ?_
              obtain rfl := Option.some.inj h19
              obtain rfl := ou21 _ rfl
              obtain rfl := Option.some.inj hF
              exact f_zret hC hEn (fSm.rf w) (nar_z (by decide)) dX5_doAgree_74
        · replace hF := fi_pos hF c17
          refine f_iconst (v := 0) hC dX5_doAgree_42 (by decide) ?_
          obtain rfl := Option.some.inj hF
          exact f_zret hC hEn (fSm.rf w) (nar_z (by decide)) dX5_doAgree_43
  refine f_if_eq hC 13 dX5_doAgree_6 (by decide) (fun c39 => ?_) (fun c39 => ?_)
  · replace h6 := fi_pos h6 c39
    refine f_iconst (v := 1) hC dX5_doAgree_13 (by decide) ?_
    obtain rfl := Option.some.inj h6
    refine f_sub (L' := [(0, .ref a0), (1, .int x1)]) [0, 1] rfl ?_
    exact K8
  · replace h6 := fi_neg h6 c39
    refine f_iconst (v := 0) hC dX5_doAgree_9 (by decide) ?_
    refine f_goto hC 14 dX5_doAgree_10 (by decide) ?_
    obtain rfl := Option.some.inj h6
    refine f_sub (L' := [(0, .ref a0), (1, .int x1)]) [0, 1] rfl ?_
    exact K8
theorem dX5_halfThere_0 : decode cX5_halfThere 0 = .ok (.aload_n 0, 1) := by decide +kernel
theorem dX5_halfThere_1 : decode cX5_halfThere 1 = .ok (.iload_n 1, 1) := by decide +kernel
theorem dX5_halfThere_2 : decode cX5_halfThere 2 = .ok (.invokevirtual 135, 3) := by decide +kernel
theorem dX5_halfThere_5 : decode cX5_halfThere 5 = .ok (.ifCond .ne 7, 3) := by decide +kernel
theorem dX5_halfThere_8 : decode cX5_halfThere 8 = .ok (.iconst 1, 1) := by decide +kernel
theorem dX5_halfThere_9 : decode cX5_halfThere 9 = .ok (.goto 20, 3) := by decide +kernel
theorem dX5_halfThere_12 : decode cX5_halfThere 12 = .ok (.aload_n 0, 1) := by decide +kernel
theorem dX5_halfThere_13 : decode cX5_halfThere 13 = .ok (.iload_n 1, 1) := by decide +kernel
theorem dX5_halfThere_14 : decode cX5_halfThere 14 = .ok (.iload_n 2, 1) := by decide +kernel
theorem dX5_halfThere_15 : decode cX5_halfThere 15 = .ok (.invokestatic 194, 3) := by decide +kernel
theorem dX5_halfThere_18 : decode cX5_halfThere 18 = .ok (.invokevirtual 92, 3) := by decide +kernel
theorem dX5_halfThere_21 : decode cX5_halfThere 21 = .ok (.ifCond .eq 7, 3) := by decide +kernel
theorem dX5_halfThere_24 : decode cX5_halfThere 24 = .ok (.iconst 0, 1) := by decide +kernel
theorem dX5_halfThere_25 : decode cX5_halfThere 25 = .ok (.goto 4, 3) := by decide +kernel
theorem dX5_halfThere_28 : decode cX5_halfThere 28 = .ok (.iconst 2, 1) := by decide +kernel
theorem dX5_halfThere_29 : decode cX5_halfThere 29 = .ok (.ireturn, 1) := by decide +kernel
theorem h9_X5_halfThere : yX5_halfThere.cls ≠ "java/lang/invoke/MethodHandle" ∧ yX5_halfThere.cls ≠ "java/lang/invoke/VarHandle" ∧ (parseMethodDescriptor yX5_halfThere.desc).map (fun d => d.parameters.length) = some 2 := by decide +kernel
noncomputable def F_X5_halfThere (a0 : Nat) (x1 : Int32) (x2 : Int32) (w : FW) : Option (Int32) :=
  fg (w.1 a0 = 6) inferInstance ((F_X5_isTicket a0 x1 w).bind (fun r1 => (if r1 = 0 then some 1 else (F_X5_number x2 w).bind (fun r6 => (F_X5_isPunched a0 x1 r6 w).bind (fun r9 => (if r9 = 0 then some 2 else some 0))))))
set_option maxHeartbeats 4000000 in
set_option maxRecDepth 100000 in
theorem c_X5_halfThere (l : Launch) (D : va_G) (cy : Nat → ClassId) (a0 : Nat) (x1 : Int32) (x2 : Int32) (w : FW) (r : Int32) (hF : F_X5_halfThere a0 x1 x2 w = some r) : fSpec l D cy yX5_halfThere cX5_halfThere 3 (some .int) { frames := 3, cells := 0, slots := 0, locals := 67 } [.ref a0, .int x1, .int x2] w w (some (.int r)) := by
  refine f_begin (by decide +kernel) (Nat.le_of_ble_eq_true rfl) (fun X hC hEn => ?_)
  unfold F_X5_halfThere at hF
  show fAt X 0 0 3 w [(0, .ref a0), (1, .int x1), (2, .int x2)] [] 0
  refine f_aload_n hC dX5_halfThere_0 rfl 0 rfl ?_
  refine f_iload_n hC dX5_halfThere_1 rfl 1 rfl ?_
  obtain ⟨g3, hF⟩ := fg_open hF
  obtain ⟨r1, h2, hF⟩ := fb_open hF
  refine f_callV hC [.int x1] (c_X5_isTicket l D cy a0 x1 w r1 h2) q_1420 q_137 q_1417 q_1419 q_86 h9_X5_isTicket rfl (fSm.k (fSm.rf w) g3) ⟨Nat.le_of_ble_eq_true rfl, Nat.le_of_ble_eq_true rfl⟩ ⟨Nat.le_of_ble_eq_true rfl, Nat.le_of_ble_eq_true rfl⟩ (Nat.le_of_ble_eq_true rfl) rfl dX5_halfThere_2 (fun e4 => ?_)
  refine f_if_ne hC 12 dX5_halfThere_5 (by decide) (fun c5 => ?_) (fun c5 => ?_)
  · replace hF := fi_neg hF c5
    refine f_aload_n hC dX5_halfThere_12 rfl 0 rfl ?_
    refine f_iload_n hC dX5_halfThere_13 rfl 1 rfl ?_
    refine f_iload_n hC dX5_halfThere_14 rfl 2 rfl ?_
    obtain ⟨r6, h7, hF⟩ := fb_open hF
    refine f_callS hC [.int x2] (c_X5_number l D cy x2 w r6 h7) q_1471 q_137 q_1469 q_1470 h9_X5_number ⟨Nat.le_of_ble_eq_true rfl, Nat.le_of_ble_eq_true rfl⟩ ⟨Nat.le_of_ble_eq_true rfl, Nat.le_of_ble_eq_true rfl⟩ (Nat.le_of_ble_eq_true rfl) rfl dX5_halfThere_15 (fun e8 => ?_)
    obtain ⟨r9, h10, hF⟩ := fb_open hF
    refine f_callV hC [.int x1, .int r6] (c_X5_isPunched l D cy a0 x1 r6 w r9 h10) q_1479 q_137 q_1476 q_1478 q_95 h9_X5_isPunched rfl (fSm.k (fSm.rf w) g3) ⟨Nat.le_of_ble_eq_true rfl, Nat.le_of_ble_eq_true rfl⟩ ⟨Nat.le_of_ble_eq_true rfl, Nat.le_of_ble_eq_true rfl⟩ (Nat.le_of_ble_eq_true rfl) rfl dX5_halfThere_18 (fun e11 => ?_)
    refine f_if_eq hC 28 dX5_halfThere_21 (by decide) (fun c12 => ?_) (fun c12 => ?_)
    · replace hF := fi_pos hF c12
      refine f_iconst (v := 2) hC dX5_halfThere_28 (by decide) ?_
      obtain rfl := Option.some.inj hF
      exact f_iret hC hEn (fSm.rf w) dX5_halfThere_29
    · replace hF := fi_neg hF c12
      refine f_iconst (v := 0) hC dX5_halfThere_24 (by decide) ?_
      refine f_goto hC 29 dX5_halfThere_25 (by decide) ?_
      obtain rfl := Option.some.inj hF
      exact f_iret hC hEn (fSm.rf w) dX5_halfThere_29
  · replace hF := fi_pos hF c5
    refine f_iconst (v := 1) hC dX5_halfThere_8 (by decide) ?_
    refine f_goto hC 29 dX5_halfThere_9 (by decide) ?_
    obtain rfl := Option.some.inj hF
    exact f_iret hC hEn (fSm.rf w) dX5_halfThere_29
theorem dX5_moodFor_0 : decode cX5_moodFor 0 = .ok (.aload_n 0, 1) := by decide +kernel
theorem dX5_moodFor_1 : decode cX5_moodFor 1 = .ok (.aload_n 0, 1) := by decide +kernel
theorem dX5_moodFor_2 : decode cX5_moodFor 2 = .ok (.iload_n 1, 1) := by decide +kernel
theorem dX5_moodFor_3 : decode cX5_moodFor 3 = .ok (.iload_n 2, 1) := by decide +kernel
theorem dX5_moodFor_4 : decode cX5_moodFor 4 = .ok (.invokevirtual 213, 3) := by decide +kernel
theorem dX5_moodFor_7 : decode cX5_moodFor 7 = .ok (.putfield 41, 3) := by decide +kernel
theorem dX5_moodFor_10 : decode cX5_moodFor 10 = .ok (.aload_n 0, 1) := by decide +kernel
theorem dX5_moodFor_11 : decode cX5_moodFor 11 = .ok (.getfield 41, 3) := by decide +kernel
theorem dX5_moodFor_14 : decode cX5_moodFor 14 = .ok (.ifCond .le 5, 3) := by decide +kernel
theorem dX5_moodFor_17 : decode cX5_moodFor 17 = .ok (.iconst 0, 1) := by decide +kernel
theorem dX5_moodFor_18 : decode cX5_moodFor 18 = .ok (.ireturn, 1) := by decide +kernel
theorem dX5_moodFor_19 : decode cX5_moodFor 19 = .ok (.iload_n 2, 1) := by decide +kernel
theorem dX5_moodFor_20 : decode cX5_moodFor 20 = .ok (.invokestatic 194, 3) := by decide +kernel
theorem dX5_moodFor_23 : decode cX5_moodFor 23 = .ok (.istore_n 3, 1) := by decide +kernel
theorem dX5_moodFor_24 : decode cX5_moodFor 24 = .ok (.iconst 0, 1) := by decide +kernel
theorem dX5_moodFor_25 : decode cX5_moodFor 25 = .ok (.istore 4, 2) := by decide +kernel
theorem dX5_moodFor_27 : decode cX5_moodFor 27 = .ok (.iload 4, 2) := by decide +kernel
theorem dX5_moodFor_29 : decode cX5_moodFor 29 = .ok (.iconst 5, 1) := by decide +kernel
theorem dX5_moodFor_30 : decode cX5_moodFor 30 = .ok (.if_icmp .ge 36, 3) := by decide +kernel
theorem dX5_moodFor_33 : decode cX5_moodFor 33 = .ok (.aload_n 0, 1) := by decide +kernel
theorem dX5_moodFor_34 : decode cX5_moodFor 34 = .ok (.iload_n 1, 1) := by decide +kernel
theorem dX5_moodFor_35 : decode cX5_moodFor 35 = .ok (.iload_n 3, 1) := by decide +kernel
theorem dX5_moodFor_36 : decode cX5_moodFor 36 = .ok (.aload_n 0, 1) := by decide +kernel
theorem dX5_moodFor_37 : decode cX5_moodFor 37 = .ok (.iload_n 1, 1) := by decide +kernel
theorem dX5_moodFor_38 : decode cX5_moodFor 38 = .ok (.iload_n 3, 1) := by decide +kernel
theorem dX5_moodFor_39 : decode cX5_moodFor 39 = .ok (.iconst 1, 1) := by decide +kernel
theorem dX5_moodFor_40 : decode cX5_moodFor 40 = .ok (.invokevirtual 78, 3) := by decide +kernel
theorem dX5_moodFor_43 : decode cX5_moodFor 43 = .ok (.iload 4, 2) := by decide +kernel
theorem dX5_moodFor_45 : decode cX5_moodFor 45 = .ok (.invokevirtual 113, 3) := by decide +kernel
theorem dX5_moodFor_48 : decode cX5_moodFor 48 = .ok (.aload_n 0, 1) := by decide +kernel
theorem dX5_moodFor_49 : decode cX5_moodFor 49 = .ok (.iload_n 1, 1) := by decide +kernel
theorem dX5_moodFor_50 : decode cX5_moodFor 50 = .ok (.iconst 0, 1) := by decide +kernel
theorem dX5_moodFor_51 : decode cX5_moodFor 51 = .ok (.invokevirtual 70, 3) := by decide +kernel
theorem dX5_moodFor_54 : decode cX5_moodFor 54 = .ok (.if_icmp .ne 6, 3) := by decide +kernel
theorem dX5_moodFor_57 : decode cX5_moodFor 57 = .ok (.iload 4, 2) := by decide +kernel
theorem dX5_moodFor_59 : decode cX5_moodFor 59 = .ok (.ireturn, 1) := by decide +kernel
theorem dX5_moodFor_60 : decode cX5_moodFor 60 = .ok (.iinc 4 1, 3) := by decide +kernel
theorem dX5_moodFor_63 : decode cX5_moodFor 63 = .ok (.goto (-36), 3) := by decide +kernel
theorem dX5_moodFor_66 : decode cX5_moodFor 66 = .ok (.aload_n 0, 1) := by decide +kernel
theorem dX5_moodFor_67 : decode cX5_moodFor 67 = .ok (.iconst 2, 1) := by decide +kernel
theorem dX5_moodFor_68 : decode cX5_moodFor 68 = .ok (.invokevirtual 57, 3) := by decide +kernel
theorem dX5_moodFor_71 : decode cX5_moodFor 71 = .ok (.ireturn, 1) := by decide +kernel
theorem h9_X5_moodFor : yX5_moodFor.cls ≠ "java/lang/invoke/MethodHandle" ∧ yX5_moodFor.cls ≠ "java/lang/invoke/VarHandle" ∧ (parseMethodDescriptor yX5_moodFor.desc).map (fun d => d.parameters.length) = some 2 := by decide +kernel
noncomputable def F_X5_moodFor (a0 : Nat) (x1 : Int32) (x2 : Int32) (w : FW) : Option (Int32 × FW) :=
  fg (w.1 a0 = 6) inferInstance ((F_X5_halfThere a0 x1 x2 w).bind (fun r1 => (if (gI (sI w 500 a0 0 r1) 500 a0 0) ≤ 0 then (F_X5_number x2 (sI w 500 a0 0 r1)).bind (fun r6 => (fLoop (σ := Int32) (ρ := (Unit) ⊕ (Int32 × FW)) (fun s9 => (if 5 ≤ s9 then some (.inr (.inl ())) else (F_X5_half a0 x1 r6 1 (sI w 500 a0 0 r1)).bind (fun r19 => (F_X5_rightOf a0 x1 r6 r19 s9 (sI w 500 a0 0 r1)).bind (fun r22 => (F_X5_of a0 x1 0 (sI w 500 a0 0 r1)).bind (fun r25 => (if r22 = r25 then some (.inr (.inr (s9, (sI w 500 a0 0 r1)))) else some (.inl (s9 + 1)))))))) 0).bind (fun x15 => fse x15 (fun z29 => (F_X5_fails a0 2 (sI w 500 a0 0 r1)).bind (fun r30 => some (r30.1, r30.2))) (fun q9 => some q9))) else some (0, (sI w 500 a0 0 r1)))))
set_option maxHeartbeats 4000000 in
set_option maxRecDepth 100000 in
theorem c_X5_moodFor (l : Launch) (D : va_G) (cy : Nat → ClassId) (a0 : Nat) (x1 : Int32) (x2 : Int32) (w : FW) (r : Int32 × FW) (hF : F_X5_moodFor a0 x1 x2 w = some r) : fSpec l D cy yX5_moodFor cX5_moodFor 5 (some .int) { frames := 7, cells := 0, slots := 0, locals := 168 } [.ref a0, .int x1, .int x2] w r.2 (some (.int r.1)) := by
  refine f_begin (by decide +kernel) (Nat.le_of_ble_eq_true rfl) (fun X hC hEn => ?_)
  unfold F_X5_moodFor at hF
  show fAt X 0 0 5 w [(0, .ref a0), (1, .int x1), (2, .int x2)] [] 0
  refine f_aload_n hC dX5_moodFor_0 rfl 0 rfl ?_
  refine f_aload_n hC dX5_moodFor_1 rfl 0 rfl ?_
  refine f_iload_n hC dX5_moodFor_2 rfl 1 rfl ?_
  refine f_iload_n hC dX5_moodFor_3 rfl 2 rfl ?_
  obtain ⟨g3, hF⟩ := fg_open hF
  obtain ⟨r1, h2, hF⟩ := fb_open hF
  refine f_callV hC [.int x1, .int x2] (c_X5_halfThere l D cy a0 x1 x2 w r1 h2) q_1577 q_137 q_1574 q_1576 q_110 h9_X5_halfThere rfl (fSm.k (fSm.rf w) g3) ⟨Nat.le_of_ble_eq_true rfl, Nat.le_of_ble_eq_true rfl⟩ ⟨Nat.le_of_ble_eq_true rfl, Nat.le_of_ble_eq_true rfl⟩ (Nat.le_of_ble_eq_true rfl) rfl dX5_moodFor_4 (fun e4 => ?_)
  refine f_putI hC 5 0 500 rfl (by decide) iX5 tyX5 tyX5_ok nmX5 q_1259 rfl rfl rfl rfl rfl (fSm.k (fSm.rf w) g3) dX5_moodFor_7 ?_
  refine f_aload_n hC dX5_moodFor_10 rfl 0 rfl ?_
  refine f_getI hC 5 0 500 rfl (by decide) iX5 q_1259 rfl rfl (fSm.k (fSm.rf w) g3) dX5_moodFor_11 ?_
  refine f_if_le hC 19 dX5_moodFor_14 (by decide) (fun c5 => ?_) (fun c5 => ?_)
  · replace hF := fi_pos hF c5
    refine f_iload_n hC dX5_moodFor_19 rfl 2 rfl ?_
    obtain ⟨r6, h7, hF⟩ := fb_open hF
    refine f_callS hC [.int x2] (c_X5_number l D cy x2 (sI w 500 a0 0 r1) r6 h7) q_1471 q_137 q_1469 q_1470 h9_X5_number ⟨Nat.le_of_ble_eq_true rfl, Nat.le_of_ble_eq_true rfl⟩ ⟨Nat.le_of_ble_eq_true rfl, Nat.le_of_ble_eq_true rfl⟩ (Nat.le_of_ble_eq_true rfl) rfl dX5_moodFor_20 (fun e8 => ?_)
    refine f_istore_n (L' := [(3, .int r6), (0, .ref a0), (1, .int x1), (2, .int x2)]) hC dX5_moodFor_23 rfl (by decide) rfl ?_
    refine f_iconst (v := 0) hC dX5_moodFor_24 (by decide) ?_
    refine f_istore (L' := [(4, .int 0), (3, .int r6), (0, .ref a0), (1, .int x1), (2, .int x2)]) hC dX5_moodFor_25 (by decide) rfl ?_
    obtain ⟨x15, h16, hF⟩ := fb_open hF
    have K17 : ∀ z29, x15 = .inl z29 → fAt X 0 0 5 (sI w 500 a0 0 r1) [(0, .ref a0)] [] 66 := by
      intro z29 hz9
      subst hz9
      refine f_aload_n hC dX5_moodFor_66 rfl 0 rfl ?_
      refine f_iconst (v := 2) hC dX5_moodFor_67 (by decide) ?_
      obtain ⟨r30, h31, hF⟩ := fb_open hF
      refine f_callV hC [.int 2] (c_X5_fails l D cy a0 2 (sI w 500 a0 0 r1) r30 h31) q_1380 q_137 q_1377 q_1379 q_79 h9_X5_fails rfl (fSm.k (fSm.rf w) g3) ⟨Nat.le_of_ble_eq_true rfl, Nat.le_of_ble_eq_true rfl⟩ ⟨Nat.le_of_ble_eq_true rfl, Nat.le_of_ble_eq_true rfl⟩ (Nat.le_of_ble_eq_true rfl) rfl dX5_moodFor_68 (fun e32 => ?_)
      obtain rfl := Option.some.inj hF
      exact f_iret hC hEn (fSm.tr e32 (fSm.rf w)) dX5_moodFor_71
    refine f_sub (L' := [(0, .ref a0), (1, .int x1), (3, .int r6), (4, .int 0)]) [2, 3, 1, 0] rfl ?_
    refine fLoop_ind (fun (s9 : Int32) => fAt X 0 0 5 (sI w 500 a0 0 r1) [(0, .ref a0), (1, .int x1), (3, .int r6), (4, .int s9)] [] 27) (fun s9 y14 h10 go11 ou12 => ?_) h16
    refine f_iload hC dX5_moodFor_27 3 rfl ?_
    refine f_iconst (v := 5) hC dX5_moodFor_29 (by decide) ?_
    refine f_icmp_ge hC 66 dX5_moodFor_30 (by decide) (fun c18 => ?_) (fun c18 => ?_)
    · replace h10 := fi_pos h10 c18
      obtain rfl := Option.some.inj h10
      have eo := ou12 _ rfl
      refine f_sub (L' := [(0, .ref a0)]) [0] rfl ?_
      exact K17 _ eo.symm
    · replace h10 := fi_neg h10 c18
      refine f_aload_n hC dX5_moodFor_33 rfl 0 rfl ?_
      refine f_iload_n hC dX5_moodFor_34 rfl 1 rfl ?_
      refine f_iload_n hC dX5_moodFor_35 rfl 2 rfl ?_
      refine f_aload_n hC dX5_moodFor_36 rfl 0 rfl ?_
      refine f_iload_n hC dX5_moodFor_37 rfl 1 rfl ?_
      refine f_iload_n hC dX5_moodFor_38 rfl 2 rfl ?_
      refine f_iconst (v := 1) hC dX5_moodFor_39 (by decide) ?_
      obtain ⟨r19, h20, h10⟩ := fb_open h10
      refine f_callV hC [.int x1, .int r6, .int 1] (c_X5_half l D cy a0 x1 r6 1 (sI w 500 a0 0 r1) r19 h20) q_1483 q_137 q_1480 q_1482 q_96 h9_X5_half rfl (fSm.k (fSm.rf w) g3) ⟨Nat.le_of_ble_eq_true rfl, Nat.le_of_ble_eq_true rfl⟩ ⟨Nat.le_of_ble_eq_true rfl, Nat.le_of_ble_eq_true rfl⟩ (Nat.le_of_ble_eq_true rfl) rfl dX5_moodFor_40 (fun e21 => ?_)
      refine f_iload hC dX5_moodFor_43 3 rfl ?_
      obtain ⟨r22, h23, h10⟩ := fb_open h10
      refine f_callV hC [.int x1, .int r6, .int r19, .int s9] (c_X5_rightOf l D cy a0 x1 r6 r19 s9 (sI w 500 a0 0 r1) r22 h23) q_1550 q_137 q_1547 q_1549 q_107 h9_X5_rightOf rfl (fSm.k (fSm.rf w) g3) ⟨Nat.le_of_ble_eq_true rfl, Nat.le_of_ble_eq_true rfl⟩ ⟨Nat.le_of_ble_eq_true rfl, Nat.le_of_ble_eq_true rfl⟩ (Nat.le_of_ble_eq_true rfl) rfl dX5_moodFor_45 (fun e24 => ?_)
      refine f_aload_n hC dX5_moodFor_48 rfl 0 rfl ?_
      refine f_iload_n hC dX5_moodFor_49 rfl 1 rfl ?_
      refine f_iconst (v := 0) hC dX5_moodFor_50 (by decide) ?_
      obtain ⟨r25, h26, h10⟩ := fb_open h10
      refine f_callV hC [.int x1, .int 0] (c_X5_of l D cy a0 x1 0 (sI w 500 a0 0 r1) r25 h26) q_1452 q_137 q_1449 q_1451 q_91 h9_X5_of rfl (fSm.k (fSm.rf w) g3) ⟨Nat.le_of_ble_eq_true rfl, Nat.le_of_ble_eq_true rfl⟩ ⟨Nat.le_of_ble_eq_true rfl, Nat.le_of_ble_eq_true rfl⟩ (Nat.le_of_ble_eq_true rfl) rfl dX5_moodFor_51 (fun e27 => ?_)
      refine f_icmp_ne hC 60 dX5_moodFor_54 (by decide) (fun c28 => ?_) (fun c28 => ?_)
      · replace h10 := fi_neg h10 c28
        refine f_iinc (L' := [(4, .int (s9 + 1)), (0, .ref a0), (1, .int x1), (3, .int r6)]) hC dX5_moodFor_60 3 rfl rfl (by decide) rfl ?_
        refine f_goto hC 27 dX5_moodFor_63 (by decide) ?_
        obtain rfl := Option.some.inj h10
        refine f_sub (L' := [(0, .ref a0), (1, .int x1), (3, .int r6), (4, .int (s9 + 1))]) [1, 2, 3, 0] rfl ?_
        exact go11 _ rfl
      · replace h10 := fi_pos h10 c28
        refine f_iload hC dX5_moodFor_57 3 rfl ?_
        obtain rfl := Option.some.inj h10
        obtain rfl := ou12 _ rfl
        obtain rfl := Option.some.inj hF
        exact f_iret hC hEn (fSm.rf w) dX5_moodFor_59
  · replace hF := fi_neg hF c5
    refine f_iconst (v := 0) hC dX5_moodFor_17 (by decide) ?_
    obtain rfl := Option.some.inj hF
    exact f_iret hC hEn (fSm.rf w) dX5_moodFor_18
