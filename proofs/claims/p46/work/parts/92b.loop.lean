theorem q_1414 : Cond.code yL_isKept cL_isKept 6 (some .boolean) ∈ lwA := mA 1414 (by decide +kernel) rfl
theorem q_1412 : Cond.methodLink RL 211 yL_isKept ∈ lwA := mA 1412 (by decide +kernel) rfl
theorem q_1413 : Cond.static yL_isKept ∈ lwA := mA 1413 (by decide +kernel) rfl
theorem q_101 : Cond.instantiable RX4 15 ∈ lwA := mA 101 (by decide +kernel) rfl
theorem q_1436 : Cond.arrayClass .long ∈ lwA := mA 1436 (by decide +kernel) rfl
theorem q_78 : Cond.initialized "java/lang/Throwable" ∈ lwA := mA 78 (by decide +kernel) rfl
theorem q_84 : Cond.initialized "java/lang/String" ∈ lwA := mA 84 (by decide +kernel) rfl
theorem q_87 : Cond.initialized "jdk/internal/util/Preconditions" ∈ lwA := mA 87 (by decide +kernel) rfl
theorem q_100 : Cond.classLink RL 15 RX4 ∈ lwA := mA 100 (by decide +kernel) rfl
theorem q_104 : Cond.code yX4_init cX4_init 2 none ∈ lwA := mA 104 (by decide +kernel) rfl
theorem q_102 : Cond.methodLink RL 184 yX4_init ∈ lwA := mA 102 (by decide +kernel) rfl
theorem q_103 : Cond.instanceMethod yX4_init ∈ lwA := mA 103 (by decide +kernel) rfl
/-! The rounds -/
section LAW
variable {X : FX} {l : Launch} {D : va_G} {cy : Nat → ClassId} {sb Ln x y cl sl h n made nn : Nat} {xs : Nat → Int32} {w : FW} {fs : Nat → Int64} {A H S : Nat → Int32} {sv r : Int32}

set_option maxHeartbeats 4000000 in
theorem law_end (hC : fOK X cL_law 18 RL room_1 l D cy) (hL : lOK X gE0 (some (sb, Ln, xs))) (hcl : cl + 12000 ≤ 795604) (hsl : sl + 80000 ≤ 6705037) (C : CR w x A nn H sv S) (hS : SS fs made nn A H) (kend : ∀ (h2 : Nat) (w2 : FW) (made2 : Nat) (fs2 : Nat → Int64), gAt X 795604 6705037 18 w2 h2 (smE cy y fs2) [(5, .int (nI 46)), (4, .int (nI (6 * 46))), (3, .int (nI made2)), (2, .ref y), (1, .ref x), (0, .ref sb)] [.int 1] 370) : gAt X cl sl 18 w h (smE cy y fs) [(5, .int (nI 46)), (4, .int (nI (6 * 46))), (3, .int (nI made)), (2, .ref y), (1, .ref x), (0, .ref sb)] [] 28 := by
  refine g_iload hC dL_law_28 0 rfl ?_
  refine g_bipush (v := (nI 46)) hC dL_law_30 (by decide) ?_
  refine g_icmp_ge hC 364 dL_law_32 (by decide) (fun _ => ?_) (fun h9 => absurd (Int32.le_refl _) h9)
  refine g_aload_n hC dL_law_364 rfl 4 rfl ?_
  refine g_aload_n hC dL_law_365 rfl 3 rfl ?_
  refine g_iload_n hC dL_law_366 rfl 2 rfl ?_
  obtain ⟨z, e1, e2⟩ := l_isKept (y0 := y) C hS
  refine g_callLk hC hL [.ref x, .ref y, .int (nI made)] (c_L_isKept l D cy x y (nI made) fs w z e1) (Or.inl rfl) (fun _ _ h => Or.inl h) q_1414 q_72 q_1412 q_1413 h9_L_isKept ⟨Nat.le_of_ble_eq_true rfl, Nat.le_of_ble_eq_true rfl⟩ 7074 42444 rfl rfl ⟨by show cl + 7074 ≤ 795604; omega, by show sl + 42444 ≤ 6705037; omega⟩ (Nat.le_of_ble_eq_true rfl) rfl dL_law_367 (fun p1 _ _ => ?_)
  refine g_cs (cl + 7074) (sl + 42444) (show (cl + 7074) = cl + 7074 from by omega) (show (sl + 42444) = sl + 42444 from by omega) ?_
  show gAt X (cl + 7074) (sl + 42444) 18 z.2 p1 (smE cy y fs) [(5, .int (nI 46)), (4, .int (nI (6 * 46))), (3, .int (nI made)), (2, .ref y), (1, .ref x), (0, .ref sb)] [.int z.1] 370
  rw [e2]
  exact g_widen (by omega) (by omega) (kend _ _ _ _)
set_option maxHeartbeats 4000000 in
theorem law_loop {X : FX} {l : Launch} {D : va_G} {cy : Nat → ClassId} {sb Ln x y : Nat} {xs : Nat → Int32} (hC : fOK X cL_law 18 RL room_1 l D cy) (hL : lOK X gE0 (some (sb, Ln, xs))) (hLn : Ln < 2 ^ 31) (kend : ∀ (h2 : Nat) (w2 : FW) (made2 : Nat) (fs2 : Nat → Int64), gAt X 795604 6705037 18 w2 h2 (smE cy y fs2) [(5, .int (nI 46)), (4, .int (nI (6 * 46))), (3, .int (nI made2)), (2, .ref y), (1, .ref x), (0, .ref sb)] [.int 1] 370) : ∀ d n h made w fs, n + d = 46 → LI x n made w fs → gAt X (1300 + 4180 * n) (10000 + 25110 * n) 18 w h (smE cy y fs) [(5, .int (nI n)), (4, .int (nI (6 * n))), (3, .int (nI made)), (2, .ref y), (1, .ref x), (0, .ref sb)] [] 28 := by
  intro d
  induction d with
  | zero =>
    intro n h made w fs hd hi
    obtain ⟨A, nn, H, sv, S, C, hI, hy, hS, h8, hm⟩ := hi
    have hn : n = 46 := by omega
    subst hn
    exact law_end hC hL (by omega) (by omega) C hS kend
  | succ d ih =>
    intro n h made w fs hd hi
    obtain ⟨A, nn, H, sv, S, C, hI, hy, hS, h8, hm⟩ := hi
    refine g_iload hC dL_law_28 0 rfl ?_
    refine g_bipush (v := (nI 46)) hC dL_law_30 (by decide) ?_
    refine g_icmp_ge hC 364 dL_law_32 (by decide) (fun h9 => absurd h9 (nI_ge (by omega) (by decide))) (fun _ => ?_)
    exact law_g hC hL (by omega) (by omega) C hI hy hS h8 hm (by omega) hLn (fun h2 w2 made2 fs2 hi2 => g_cs (1300 + 4180 * (n + 1)) (10000 + 25110 * (n + 1)) (by omega) (by omega) (ih (n + 1) h2 made2 w2 fs2 (by omega) hi2))
end LAW
