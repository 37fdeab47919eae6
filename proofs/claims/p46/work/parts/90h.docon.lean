/-- what the law's does does -/
def DOES (v kd x t g u : Nat) (w : FW) (r : Int32) (w' : FW) : Prop :=
  if kd < 4 then RDS x (tN v) w r w' else if kd = 4 then F_L_letter x (fch (97 + nI (v % 21))) w = some (r, w') else if kd = 5 then (if v % 3 = 0 then F_L_unletter x w = some (r, w') else F_L_print x (nI (v % 5)) (nI (v / 5 % 5)) (nI (v % 4)) w = some (r, w')) else if kd = 6 then F_L_mood x (nI (v % 3)) (nI (v % 6)) w = some (r, w') else if kd = 7 then F_L_pier x (nI (v % 5)) (if v % 2 = 0 then 1 else 0) w = some (r, w') else if kd < 10 then F_X4_day x w = some (.inl r, w') else if kd < 16 then F_L_punch x (nI t) (nI g) (nI (v % 3)) w = some (r, w') else if kd < 20 then F_L_wet x (nI t) (nI g) (nI u) w = some (r, w') else if kd = 20 then F_L_tear x (nI t) w = some (r, w') else if kd < 23 then F_L_lose x (nI t) (nI g) w = some (r, w') else if kd = 23 then F_L_find x (nI t) (nI g) w = some (r, w') else if kd = 24 then F_L_throwAway x (nI t) w = some (r, w') else if kd < 30 then F_L_ride x (nI t) (nI g) w = some (r, w') else RDS x (tD v t g u) w r w'
section DOF
variable {X : FX} {l : Launch} {D : va_G} {cy : Nat → ClassId} {sa n x ii kd t g u v h0 h1 : Nat} {f : Nat → Int32} {w w' : FW} {r : Int32}
set_option maxHeartbeats 4000000 in
theorem do_sw (hC : fOK X cL_does 9 RL rmD l D cy) (hL : lOK X gE0 (some (sa, n, f))) (hEn : fEnd X (some .int) (some (.int r)) w w' 25 182) (h01 : h0 < h1) (hv : v < 1000) (ht9 : t < 10) (hu9 : u < 10) (hx : w.1 x = 5) (hg : g < 2) (hkd : kd < 34) (hR : DOES v kd x t g u w r w') : gAt X 1 6 9 w h1 (gUp gE0 h0 (some (wdA D cy 6))) [(8, .ref h0), (7, .int (nI v)), (0, .ref sa), (1, .int (nI ii)), (2, .int (nI kd)), (3, .ref x), (4, .int (nI t)), (5, .int (nI g)), (6, .int (nI u))] [] 49 := by
  refine g_iload_n hC dL_does_49 rfl 4 rfl ?_
  by_cases c : kd < 30
  · rcases (show kd = 0 ∨ kd = 1 ∨ kd = 2 ∨ kd = 3 ∨ kd = 4 ∨ kd = 5 ∨ kd = 6 ∨ kd = 7 ∨ kd = 8 ∨ kd = 9 ∨ kd = 10 ∨ kd = 11 ∨ kd = 12 ∨ kd = 13 ∨ kd = 14 ∨ kd = 15 ∨ kd = 16 ∨ kd = 17 ∨ kd = 18 ∨ kd = 19 ∨ kd = 20 ∨ kd = 21 ∨ kd = 22 ∨ kd = 23 ∨ kd = 24 ∨ kd = 25 ∨ kd = 26 ∨ kd = 27 ∨ kd = 28 ∨ kd = 29 by omega) with rfl | rfl | rfl | rfl | rfl | rfl | rfl | rfl | rfl | rfl | rfl | rfl | rfl | rfl | rfl | rfl | rfl | rfl | rfl | rfl | rfl | rfl | rfl | rfl | rfl | rfl | rfl | rfl | rfl | rfl
    · refine g_tabIn (off := 134) hC 184 dL_does_50 (by decide) (by decide) rfl (by decide) ?_
      exact do_N hC hL hEn h01 hv ht9 hu9 hR
    · refine g_tabIn (off := 134) hC 184 dL_does_50 (by decide) (by decide) rfl (by decide) ?_
      exact do_N hC hL hEn h01 hv ht9 hu9 hR
    · refine g_tabIn (off := 134) hC 184 dL_does_50 (by decide) (by decide) rfl (by decide) ?_
      exact do_N hC hL hEn h01 hv ht9 hu9 hR
    · refine g_tabIn (off := 134) hC 184 dL_does_50 (by decide) (by decide) rfl (by decide) ?_
      exact do_N hC hL hEn h01 hv ht9 hu9 hR
    · refine g_tabIn (off := 205) hC 255 dL_does_50 (by decide) (by decide) rfl (by decide) ?_
      exact do_letter hC hL hEn hv hR
    · refine g_tabIn (off := 219) hC 269 dL_does_50 (by decide) (by decide) rfl (by decide) ?_
      have hR9 : (if v % 3 = 0 then F_L_unletter x w = some (r, w') else F_L_print x (nI (v % 5)) (nI (v / 5 % 5)) (nI (v % 4)) w = some (r, w')) := hR
      by_cases c3 : v % 3 = 0
      · rw [if_pos c3] at hR9
        exact do_unl hC hL hEn hv c3 hR9
      · rw [if_neg c3] at hR9
        exact do_print hC hL hEn hv c3 hR9
    · refine g_tabIn (off := 252) hC 302 dL_does_50 (by decide) (by decide) rfl (by decide) ?_
      exact do_mood hC hL hEn hv hR
    · refine g_tabIn (off := 266) hC 316 dL_does_50 (by decide) (by decide) rfl (by decide) ?_
      have hR9 : F_L_pier x (nI (v % 5)) (if v % 2 = 0 then 1 else 0) w = some (r, w') := hR
      by_cases c2 : v % 2 = 0
      · rw [if_pos c2] at hR9
        exact do_pier1 hC hL hEn hv c2 hR9
      · rw [if_neg c2] at hR9
        exact do_pier0 hC hL hEn hv c2 hR9
    · refine g_tabIn (off := 287) hC 337 dL_does_50 (by decide) (by decide) rfl (by decide) ?_
      exact do_day hC hL hEn hx hR
    · refine g_tabIn (off := 287) hC 337 dL_does_50 (by decide) (by decide) rfl (by decide) ?_
      exact do_day hC hL hEn hx hR
    · refine g_tabIn (off := 292) hC 342 dL_does_50 (by decide) (by decide) rfl (by decide) ?_
      exact do_punch hC hL hEn hv hR
    · refine g_tabIn (off := 292) hC 342 dL_does_50 (by decide) (by decide) rfl (by decide) ?_
      exact do_punch hC hL hEn hv hR
    · refine g_tabIn (off := 292) hC 342 dL_does_50 (by decide) (by decide) rfl (by decide) ?_
      exact do_punch hC hL hEn hv hR
    · refine g_tabIn (off := 292) hC 342 dL_does_50 (by decide) (by decide) rfl (by decide) ?_
      exact do_punch hC hL hEn hv hR
    · refine g_tabIn (off := 292) hC 342 dL_does_50 (by decide) (by decide) rfl (by decide) ?_
      exact do_punch hC hL hEn hv hR
    · refine g_tabIn (off := 292) hC 342 dL_does_50 (by decide) (by decide) rfl (by decide) ?_
      exact do_punch hC hL hEn hv hR
    · refine g_tabIn (off := 305) hC 355 dL_does_50 (by decide) (by decide) rfl (by decide) ?_
      exact do_wet hC hL hEn hR
    · refine g_tabIn (off := 305) hC 355 dL_does_50 (by decide) (by decide) rfl (by decide) ?_
      exact do_wet hC hL hEn hR
    · refine g_tabIn (off := 305) hC 355 dL_does_50 (by decide) (by decide) rfl (by decide) ?_
      exact do_wet hC hL hEn hR
    · refine g_tabIn (off := 305) hC 355 dL_does_50 (by decide) (by decide) rfl (by decide) ?_
      exact do_wet hC hL hEn hR
    · refine g_tabIn (off := 316) hC 366 dL_does_50 (by decide) (by decide) rfl (by decide) ?_
      exact do_tear hC hL hEn hR
    · refine g_tabIn (off := 323) hC 373 dL_does_50 (by decide) (by decide) rfl (by decide) ?_
      exact do_lose hC hL hEn hR
    · refine g_tabIn (off := 323) hC 373 dL_does_50 (by decide) (by decide) rfl (by decide) ?_
      exact do_lose hC hL hEn hR
    · refine g_tabIn (off := 332) hC 382 dL_does_50 (by decide) (by decide) rfl (by decide) ?_
      exact do_find hC hL hEn hR
    · refine g_tabIn (off := 341) hC 391 dL_does_50 (by decide) (by decide) rfl (by decide) ?_
      exact do_throwAway hC hL hEn hR
    · refine g_tabIn (off := 348) hC 398 dL_does_50 (by decide) (by decide) rfl (by decide) ?_
      exact do_ride hC hL hEn hR
    · refine g_tabIn (off := 348) hC 398 dL_does_50 (by decide) (by decide) rfl (by decide) ?_
      exact do_ride hC hL hEn hR
    · refine g_tabIn (off := 348) hC 398 dL_does_50 (by decide) (by decide) rfl (by decide) ?_
      exact do_ride hC hL hEn hR
    · refine g_tabIn (off := 348) hC 398 dL_does_50 (by decide) (by decide) rfl (by decide) ?_
      exact do_ride hC hL hEn hR
    · refine g_tabIn (off := 348) hC 398 dL_does_50 (by decide) (by decide) rfl (by decide) ?_
      exact do_ride hC hL hEn hR
  · have hR9 : RDS x (tD v t g u) w r w' := by
      unfold DOES at hR
      rw [if_neg (by omega), if_neg (by omega), if_neg (by omega), if_neg (by omega), if_neg (by omega), if_neg (by omega), if_neg (by omega), if_neg (by omega), if_neg (by omega), if_neg (by omega), if_neg (by omega), if_neg (by omega), if_neg (by omega)] at hR
      exact hR
    refine g_tabOut hC 407 dL_does_50 (Or.inr (by rw [nI_toInt (by omega)]; omega)) (by decide) ?_
    have m4 : v % 4 < 4 := Nat.mod_lt _ (by decide)
    rcases (show v % 4 = 0 ∨ v % 4 = 1 ∨ v % 4 = 2 ∨ v % 4 = 3 by omega) with c4 | c4 | c4 | c4
    · exact do_D0 hC hL hEn h01 hv ht9 hu9 c4 hR9
    · exact do_D1 hC hL hEn h01 hv ht9 hu9 c4 hR9
    · by_cases c0 : g = 0
      · exact do_D20 hC hL hEn h01 hv ht9 hu9 c4 c0 hR9
      · exact do_D21 hC hL hEn h01 hv ht9 hu9 c4 ⟨by omega, hg⟩ hR9
    · exact do_D3 hC hL hEn h01 hv ht9 hu9 c4 hR9
end DOF
set_option maxHeartbeats 4000000 in
theorem c_L_does (l : Launch) (D : va_G) (cy : Nat → ClassId) (sa n x ii kd t g u v : Nat) (f : Nat → Int32) (w w' : FW) (r : Int32) (hn : n < 2 ^ 31) (hii : ii < 100000) (hv9 : lpick f n (nI (ii + 1)) (nI 1000) = nI v) (hv : v < 1000) (ht9 : t < 10) (hu9 : u < 10) (hx : w.1 x = 5) (hg : g < 2) (hkd : kd < 34) (hR : DOES v kd x t g u w r w') : lSpec l D cy yL_does (.code yL_does cL_does 9 (some .int)) rmD [.ref sa, .int (nI ii), .int (nI kd), .ref x, .int (nI t), .int (nI g), .int (nI u)] gE0 (some (sa, n, f)) w w' (some (.int r)) := by
  refine l_begin (by decide +kernel) (Nat.le_of_ble_eq_true rfl) (fun X h hC hEn hL => ?_)
  show gAt X 0 0 9 w h gE0 [(0, .ref sa), (1, .int (nI ii)), (2, .int (nI kd)), (3, .ref x), (4, .int (nI t)), (5, .int (nI g)), (6, .int (nI u))] [] 0
  refine g_aload_n hC dL_does_0 rfl 0 rfl ?_
  refine g_iload_n hC dL_does_1 rfl 1 rfl ?_
  refine g_iconst (v := (nI 1)) hC dL_does_2 (by decide) ?_
  refine g_iadd hC dL_does_3 ?_
  rw [nI_add]
  refine g_sipush (v := (nI 1000)) hC dL_does_4 (by decide) ?_
  refine g_callLk hC hL [.ref sa, .int (nI (ii + 1)), .int (nI 1000)] (c_L_pick l D cy w sa n f (nI (ii + 1)) (nI 1000) (nI_pos (by omega)) hn (by decide)) (Or.inr rfl) (fun _ _ h => nomatch h) q_308 q_72 q_306 q_307 h9_L_pick ⟨Nat.le_of_ble_eq_true rfl, Nat.le_of_ble_eq_true rfl⟩ 0 0 rfl rfl ⟨Nat.le_of_ble_eq_true rfl, Nat.le_of_ble_eq_true rfl⟩ (Nat.le_of_ble_eq_true rfl) rfl dL_does_7 (fun h0 _ _ => ?_)
  rw [hv9]
  show gAt X 0 0 9 w h0 (gE0) [(0, .ref sa), (1, .int (nI ii)), (2, .int (nI kd)), (3, .ref x), (4, .int (nI t)), (5, .int (nI g)), (6, .int (nI u))] [.int (nI v)] 10
  refine g_istore (L' := [(7, .int (nI v)), (0, .ref sa), (1, .int (nI ii)), (2, .int (nI kd)), (3, .ref x), (4, .int (nI t)), (5, .int (nI g)), (6, .int (nI u))]) hC dL_does_10 (by decide) rfl ?_
  refine g_bipush (v := 6) hC dL_does_12 (by decide) ?_
  refine g_anewS hC q_631 q_632 ⟨Nat.le_of_ble_eq_true rfl, Nat.le_of_ble_eq_true rfl⟩ dL_does_14 ?_
  refine g_dup hC dL_does_17 rfl ?_
  refine g_iconst (v := (nI 0)) hC dL_does_18 (by decide) ?_
  refine g_ldcS hC 14 rfl dL_does_19 ?_
  refine g_aastS (j := 0) hC (by decide) dL_does_21 ?_
  refine g_dup hC dL_does_22 rfl ?_
  refine g_iconst (v := (nI 1)) hC dL_does_23 (by decide) ?_
  refine g_ldcS hC 15 rfl dL_does_24 ?_
  refine g_aastS (j := 1) hC (by decide) dL_does_26 ?_
  refine g_dup hC dL_does_27 rfl ?_
  refine g_iconst (v := (nI 2)) hC dL_does_28 (by decide) ?_
  refine g_ldcS hC 16 rfl dL_does_29 ?_
  refine g_aastS (j := 2) hC (by decide) dL_does_31 ?_
  refine g_dup hC dL_does_32 rfl ?_
  refine g_iconst (v := (nI 3)) hC dL_does_33 (by decide) ?_
  refine g_ldcS hC 17 rfl dL_does_34 ?_
  refine g_aastS (j := 3) hC (by decide) dL_does_36 ?_
  refine g_dup hC dL_does_37 rfl ?_
  refine g_iconst (v := (nI 4)) hC dL_does_38 (by decide) ?_
  refine g_ldcS hC 18 rfl dL_does_39 ?_
  refine g_aastS (j := 4) hC (by decide) dL_does_41 ?_
  refine g_dup hC dL_does_42 rfl ?_
  refine g_iconst (v := (nI 5)) hC dL_does_43 (by decide) ?_
  refine g_ldcS hC 19 rfl dL_does_44 ?_
  refine g_aastS (j := 5) hC (by decide) dL_does_46 ?_
  refine g_astore (L' := [(8, .ref h0), (7, .int (nI v)), (0, .ref sa), (1, .int (nI ii)), (2, .int (nI kd)), (3, .ref x), (4, .int (nI t)), (5, .int (nI g)), (6, .int (nI u))]) hC dL_does_47 (by decide) rfl ?_
  refine do_sw hC hL hEn (Nat.lt_succ_self h0) hv ht9 hu9 hx hg hkd hR
