set_option maxHeartbeats 4000000 in
theorem law_33 {X : FX} {l : Launch} {D : va_G} {cy : Nat → ClassId} {b Ln : Nat} {xs : Nat → Int32} {cells slots h : Nat} {w w2 : FW} {i a1 a2 a3 : Int32} {x m o oD : Nat} {v : Int64} {vD : UInt64} (hC : fOK X cL_law 9 RL room_1 l D cy) (hst : l.stackTraces = false) (hN : gNcX X) (hS : gScr X b Ln xs) (ho : o < oD) (s1 : vp_in (i + 1) Ln) (e1 : xs (i + 1).toNatClampNeg = a1) (s2 : vp_in (i + 2) Ln) (e2 : xs (i + 2).toNatClampNeg = a2) (s3 : vp_in (i + 3) Ln) (e3 : xs (i + 3).toNatClampNeg = a3) (hx : w.1 x = 5) (hm : w.1 m = 6) (hc1 : cells + 3 ≤ 622912) (hc2 : slots + 18 ≤ 7151591) (hK : KK33 x m a1 a2 a3 w w2)
    (k : ∀ (h' : Nat) (v' : Int64) (vD' : UInt64), h ≤ h' → gAt X (cells + 3) (slots + 18) 9 w2 h' (EE cy o oD v' vD') [(5, .int i), (4, .ref oD), (3, .ref o), (2, .ref m), (1, .ref x), (0, .ref b)] [] 2923) : gAt X cells slots 9 w h (EE cy o oD v vD) [(5, .int i), (4, .ref oD), (3, .ref o), (2, .ref m), (1, .ref x), (0, .ref b)] [] 2447 := by
  obtain ⟨rx, b9, t, hF1, hF2, hF3, hes, ht, hv⟩ := hK
  refine g_aload_n hC dL_law_2447 rfl 4 rfl ?_
  refine g_aload_n hC dL_law_2448 rfl 5 rfl ?_
  refine g_iload hC dL_law_2449 0 rfl ?_
  refine g_iconst (v := 1) hC dL_law_2451 (by decide) ?_
  refine g_iadd hC dL_law_2452 ?_
  refine g_sald hC hS s1 e1 dL_law_2453 ?_
  refine g_aload_n hC dL_law_2454 rfl 2 rfl ?_
  refine g_callW hC hst [.ref x, .int a1, .ref o] hN (c_L_account l D cy x a1 o w v rx hF1 hx hes) q_1089 q_131 q_1087 q_1088 h9_L_account ⟨Nat.le_of_ble_eq_true rfl, Nat.le_of_ble_eq_true rfl⟩ ⟨by show _ + 1 ≤ 622912; omega, by show _ + 6 ≤ 7151591; omega⟩ (Nat.le_of_ble_eq_true rfl) (gE2_b _ _ ho) rfl dL_law_2455 (fun h1 hh1 hs1 => ?_)
  refine g_cs (cells + 1) (slots + 6) rfl rfl ?_
  refine g_nm h1 (gE2 o (some (.inl (wO rx (arrV (cy 5) 1 (fun _ => .long v)) (fun v => arrV (cy 5) 1 (fun _ => .long v.toInt64))))) oD (some (.inl (arrV (cy 6) 1 (fun _ => .double vD))))) w [(5, .int i), (4, .ref oD), (3, .ref o), (2, .ref m), (1, .ref x), (0, .ref b)] rfl (gE2_upb _ _ _ ho).symm rfl rfl ?_
  refine g_istore (L' := [(6, .int (wK [1] rx)), (5, .int i), (4, .ref oD), (3, .ref o), (2, .ref m), (1, .ref x), (0, .ref b)]) hC dL_law_2458 (by decide) rfl ?_
  refine g_aload_n hC dL_law_2460 rfl 4 rfl ?_
  refine g_aload_n hC dL_law_2461 rfl 6 rfl ?_
  refine g_iload hC dL_law_2462 1 rfl ?_
  refine g_iconst (v := 1) hC dL_law_2464 (by decide) ?_
  refine g_iadd hC dL_law_2465 ?_
  refine g_sald hC hS s1 e1 dL_law_2466 ?_
  refine g_callV hC (rv := some (.int b9)) [.int a1] (c_X5_account l D cy m a1 w _ hF2) q_1681 q_137 q_1678 q_1679 q_1680 h9_X5_account (T := TX5) (N := 23) (ci := 5) rfl (fSm.k hs1 hm) ⟨Nat.le_of_ble_eq_true rfl, Nat.le_of_ble_eq_true rfl⟩ ⟨by show _ + 0 ≤ 622912; omega, by show _ + 0 ≤ 7151591; omega⟩ (Nat.le_of_ble_eq_true rfl) rfl dL_law_2467 (fun h2 hh2 hs2 => ?_)
  refine g_cs (cells + 1) (slots + 6) rfl rfl ?_
  refine g_istore (L' := [(7, .int b9), (6, .int (wK [1] rx)), (5, .int i), (4, .ref oD), (3, .ref o), (2, .ref m), (1, .ref x), (0, .ref b)]) hC dL_law_2470 (by decide) rfl ?_
  refine g_aload_n hC dL_law_2472 rfl 5 rfl ?_
  refine g_callV hC (rv := some (.int t)) [] (c_X5_thrown l D cy m w2 _ hF3) q_1332 q_137 q_1329 q_1330 q_1331 h9_X5_thrown (T := TX5) (N := 23) (ci := 5) rfl (fSm.k (fSm.tr hs2 hs1) hm) ⟨Nat.le_of_ble_eq_true rfl, Nat.le_of_ble_eq_true rfl⟩ ⟨by show _ + 0 ≤ 622912; omega, by show _ + 0 ≤ 7151591; omega⟩ (Nat.le_of_ble_eq_true rfl) rfl dL_law_2473 (fun h3 hh3 hs3 => ?_)
  refine g_cs (cells + 1) (slots + 6) rfl rfl ?_
  refine g_iload hC dL_law_2476 1 rfl ?_
  refine g_icmp_eq hC 2483 dL_law_2478 (by decide) (fun _ => ?_) (fun c9 => absurd ht c9)
  refine g_iload hC dL_law_2483 1 rfl ?_
  have KE : gAt X (cells + 1) (slots + 6) 9 w2 h3 (gE2 o (some (.inl (wO rx (arrV (cy 5) 1 (fun _ => .long v)) (fun v => arrV (cy 5) 1 (fun _ => .long v.toInt64))))) oD (some (.inl (arrV (cy 6) 1 (fun _ => .double vD))))) [(7, .int b9), (6, .int (wK [1] rx)), (5, .int i), (4, .ref oD), (3, .ref o), (2, .ref m), (1, .ref x), (0, .ref b)] [] 2500 := by
    refine g_goto hC 2923 dL_law_2500 (by decide) ?_
    refine g_sub (L' := [(5, .int i), (4, .ref oD), (3, .ref o), (2, .ref m), (1, .ref x), (0, .ref b)]) [2, 3, 4, 5, 6, 7] rfl ?_
    refine g_widen (k' := cells + 3) (s' := slots + 18) (by omega) (by omega) ?_
    cases rx with
    | inl u => exact k _ _ _ (by omega)
    | inr e => exact k _ _ _ (by omega)
  refine g_if_ne hC 2500 dL_law_2485 (by decide) (fun _ => KE) (fun c9 => ?_)
  obtain ⟨u, rfl⟩ := wK_0 (by decide) hes c9
  obtain rfl := hv u rfl
  refine g_aload_n hC dL_law_2488 rfl 4 rfl ?_
  refine g_iconst (v := 0) hC dL_law_2489 (by decide) ?_
  refine g_laldE (v := u.toInt64) hC (gE2_b _ _ ho) dL_law_2490 ?_
  refine g_iload hC dL_law_2491 0 rfl ?_
  refine g_i2l hC dL_law_2493 ?_
  refine g_lcmp hC dL_law_2494 ?_
  rw [lg_self]
  exact g_if_eq hC 2500 dL_law_2495 (by decide) (fun _ => KE) (fun c9 => absurd rfl c9)
set_option maxHeartbeats 4000000 in
theorem law_34 {X : FX} {l : Launch} {D : va_G} {cy : Nat → ClassId} {b Ln : Nat} {xs : Nat → Int32} {cells slots h : Nat} {w w2 : FW} {i a1 a2 a3 : Int32} {x m o oD : Nat} {v : Int64} {vD : UInt64} (hC : fOK X cL_law 9 RL room_1 l D cy) (hst : l.stackTraces = false) (hN : gNcX X) (hS : gScr X b Ln xs) (ho : o < oD) (s1 : vp_in (i + 1) Ln) (e1 : xs (i + 1).toNatClampNeg = a1) (s2 : vp_in (i + 2) Ln) (e2 : xs (i + 2).toNatClampNeg = a2) (s3 : vp_in (i + 3) Ln) (e3 : xs (i + 3).toNatClampNeg = a3) (hx : w.1 x = 5) (hm : w.1 m = 6) (hc1 : cells + 3 ≤ 622912) (hc2 : slots + 18 ≤ 7151591) (hK : KK34 x m a1 a2 a3 w w2)
    (k : ∀ (h' : Nat) (v' : Int64) (vD' : UInt64), h ≤ h' → gAt X (cells + 3) (slots + 18) 9 w2 h' (EE cy o oD v' vD') [(5, .int i), (4, .ref oD), (3, .ref o), (2, .ref m), (1, .ref x), (0, .ref b)] [] 2923) : gAt X cells slots 9 w h (EE cy o oD v vD) [(5, .int i), (4, .ref oD), (3, .ref o), (2, .ref m), (1, .ref x), (0, .ref b)] [] 2503 := by
  obtain ⟨rx, b9, t, hF1, hF2, hF3, hes, ht, hv⟩ := hK
  refine g_aload_n hC dL_law_2503 rfl 4 rfl ?_
  refine g_aload hC dL_law_2504 1 rfl ?_
  refine g_callW hC hst [.ref x, .ref oD] hN (c_L_meanWet l D cy x oD w vD rx hF1 hx hes) q_1106 q_131 q_1104 q_1105 h9_L_meanWet ⟨Nat.le_of_ble_eq_true rfl, Nat.le_of_ble_eq_true rfl⟩ ⟨by show _ + 1 ≤ 622912; omega, by show _ + 6 ≤ 7151591; omega⟩ (Nat.le_of_ble_eq_true rfl) (gE2_a _ _ _ _) rfl dL_law_2506 (fun h1 hh1 hs1 => ?_)
  refine g_cs (cells + 1) (slots + 6) rfl rfl ?_
  refine g_nm h1 (gE2 o (some (.inl (arrV (cy 5) 1 (fun _ => .long v)))) oD (some (.inl (wO rx (arrV (cy 6) 1 (fun _ => .double vD)) (fun v => arrV (cy 6) 1 (fun _ => .double v)))))) w [(5, .int i), (4, .ref oD), (3, .ref o), (2, .ref m), (1, .ref x), (0, .ref b)] rfl (gE2_upa _ _ _ _ _).symm rfl rfl ?_
  refine g_istore (L' := [(6, .int (wK [3] rx)), (5, .int i), (4, .ref oD), (3, .ref o), (2, .ref m), (1, .ref x), (0, .ref b)]) hC dL_law_2509 (by decide) rfl ?_
  refine g_aload_n hC dL_law_2511 rfl 4 rfl ?_
  refine g_callV hC (rv := some (.double b9)) [] (c_X5_meanWet l D cy m w _ hF2) q_1693 q_137 q_1690 q_1691 q_1692 h9_X5_meanWet (T := TX5) (N := 23) (ci := 5) rfl (fSm.k hs1 hm) ⟨Nat.le_of_ble_eq_true rfl, Nat.le_of_ble_eq_true rfl⟩ ⟨by show _ + 0 ≤ 622912; omega, by show _ + 0 ≤ 7151591; omega⟩ (Nat.le_of_ble_eq_true rfl) rfl dL_law_2512 (fun h2 hh2 hs2 => ?_)
  refine g_cs (cells + 1) (slots + 6) rfl rfl ?_
  refine g_dstore (L' := [(7, .double b9), (6, .int (wK [3] rx)), (5, .int i), (4, .ref oD), (3, .ref o), (2, .ref m), (1, .ref x), (0, .ref b)]) hC dL_law_2515 (by decide) rfl ?_
  refine g_aload_n hC dL_law_2517 rfl 5 rfl ?_
  refine g_callV hC (rv := some (.int t)) [] (c_X5_thrown l D cy m w2 _ hF3) q_1332 q_137 q_1329 q_1330 q_1331 h9_X5_thrown (T := TX5) (N := 23) (ci := 5) rfl (fSm.k (fSm.tr hs2 hs1) hm) ⟨Nat.le_of_ble_eq_true rfl, Nat.le_of_ble_eq_true rfl⟩ ⟨by show _ + 0 ≤ 622912; omega, by show _ + 0 ≤ 7151591; omega⟩ (Nat.le_of_ble_eq_true rfl) rfl dL_law_2518 (fun h3 hh3 hs3 => ?_)
  refine g_cs (cells + 1) (slots + 6) rfl rfl ?_
  refine g_iload hC dL_law_2521 1 rfl ?_
  refine g_icmp_eq hC 2528 dL_law_2523 (by decide) (fun _ => ?_) (fun c9 => absurd ht c9)
  refine g_iload hC dL_law_2528 1 rfl ?_
  have KE : gAt X (cells + 1) (slots + 6) 9 w2 h3 (gE2 o (some (.inl (arrV (cy 5) 1 (fun _ => .long v)))) oD (some (.inl (wO rx (arrV (cy 6) 1 (fun _ => .double vD)) (fun v => arrV (cy 6) 1 (fun _ => .double v)))))) [(7, .double b9), (6, .int (wK [3] rx)), (5, .int i), (4, .ref oD), (3, .ref o), (2, .ref m), (1, .ref x), (0, .ref b)] [] 2565 := by
    refine g_goto hC 2923 dL_law_2565 (by decide) ?_
    refine g_sub (L' := [(5, .int i), (4, .ref oD), (3, .ref o), (2, .ref m), (1, .ref x), (0, .ref b)]) [2, 3, 4, 5, 6, 7] rfl ?_
    refine g_widen (k' := cells + 3) (s' := slots + 18) (by omega) (by omega) ?_
    cases rx with
    | inl u => exact k _ _ _ (by omega)
    | inr e => exact k _ _ _ (by omega)
  refine g_if_ne hC 2565 dL_law_2530 (by decide) (fun _ => KE) (fun c9 => ?_)
  obtain ⟨u, rfl⟩ := wK_0 (by decide) hes c9
  obtain ⟨rfl, hq⟩ := hv u rfl
  refine g_aload hC dL_law_2533 3 rfl ?_
  refine g_iconst (v := 0) hC dL_law_2535 (by decide) ?_
  refine g_daldE (v := u) hC (gE2_a _ _ _ _) dL_law_2536 ?_
  refine g_dload hC dL_law_2537 0 rfl ?_
  refine g_dcmp hC dL_law_2539 ?_
  rw [hq]
  exact g_if_eq hC 2565 dL_law_2540 (by decide) (fun _ => KE) (fun c9 => absurd rfl c9)
set_option maxHeartbeats 4000000 in
theorem law_35 {X : FX} {l : Launch} {D : va_G} {cy : Nat → ClassId} {b Ln : Nat} {xs : Nat → Int32} {cells slots h : Nat} {w w2 : FW} {i a1 a2 a3 : Int32} {x m o oD : Nat} {v : Int64} {vD : UInt64} (hC : fOK X cL_law 9 RL room_1 l D cy) (hst : l.stackTraces = false) (hN : gNcX X) (hS : gScr X b Ln xs) (ho : o < oD) (s1 : vp_in (i + 1) Ln) (e1 : xs (i + 1).toNatClampNeg = a1) (s2 : vp_in (i + 2) Ln) (e2 : xs (i + 2).toNatClampNeg = a2) (s3 : vp_in (i + 3) Ln) (e3 : xs (i + 3).toNatClampNeg = a3) (hx : w.1 x = 5) (hm : w.1 m = 6) (hc1 : cells + 3 ≤ 622912) (hc2 : slots + 18 ≤ 7151591) (hK : KK35 x m a1 a2 a3 w w2)
    (k : ∀ (h' : Nat) (v' : Int64) (vD' : UInt64), h ≤ h' → gAt X (cells + 3) (slots + 18) 9 w2 h' (EE cy o oD v' vD') [(5, .int i), (4, .ref oD), (3, .ref o), (2, .ref m), (1, .ref x), (0, .ref b)] [] 2923) : gAt X cells slots 9 w h (EE cy o oD v vD) [(5, .int i), (4, .ref oD), (3, .ref o), (2, .ref m), (1, .ref x), (0, .ref b)] [] 2568 := by
  obtain ⟨rx, b9, t, hF1, hF2, hF3, hes, ht, hv⟩ := hK
  refine g_aload_n hC dL_law_2568 rfl 4 rfl ?_
  refine g_aload hC dL_law_2569 1 rfl ?_
  refine g_callW hC hst [.ref x, .ref oD] hN (c_L_readShare l D cy x oD w vD rx hF1 hx hes (fun v hr => (hv v hr).2.1)) q_1131 q_131 q_1129 q_1130 h9_L_readShare ⟨Nat.le_of_ble_eq_true rfl, Nat.le_of_ble_eq_true rfl⟩ ⟨by show _ + 1 ≤ 622912; omega, by show _ + 6 ≤ 7151591; omega⟩ (Nat.le_of_ble_eq_true rfl) (gE2_a _ _ _ _) rfl dL_law_2571 (fun h1 hh1 hs1 => ?_)
  refine g_cs (cells + 1) (slots + 6) rfl rfl ?_
  refine g_nm h1 (gE2 o (some (.inl (arrV (cy 5) 1 (fun _ => .long v)))) oD (some (.inl (wO rx (arrV (cy 6) 1 (fun _ => .double vD)) (fun v => arrV (cy 6) 1 (fun _ => .double (FP.f2d v))))))) w [(5, .int i), (4, .ref oD), (3, .ref o), (2, .ref m), (1, .ref x), (0, .ref b)] rfl (gE2_upa _ _ _ _ _).symm rfl rfl ?_
  refine g_istore (L' := [(6, .int (wK [3] rx)), (5, .int i), (4, .ref oD), (3, .ref o), (2, .ref m), (1, .ref x), (0, .ref b)]) hC dL_law_2574 (by decide) rfl ?_
  refine g_aload_n hC dL_law_2576 rfl 4 rfl ?_
  refine g_callV hC (rv := some (.float b9)) [] (c_X5_readShare l D cy m w _ hF2) q_1697 q_137 q_1694 q_1695 q_1696 h9_X5_readShare (T := TX5) (N := 23) (ci := 5) rfl (fSm.k hs1 hm) ⟨Nat.le_of_ble_eq_true rfl, Nat.le_of_ble_eq_true rfl⟩ ⟨by show _ + 0 ≤ 622912; omega, by show _ + 0 ≤ 7151591; omega⟩ (Nat.le_of_ble_eq_true rfl) rfl dL_law_2577 (fun h2 hh2 hs2 => ?_)
  refine g_cs (cells + 1) (slots + 6) rfl rfl ?_
  refine g_fstore (L' := [(7, .float b9), (6, .int (wK [3] rx)), (5, .int i), (4, .ref oD), (3, .ref o), (2, .ref m), (1, .ref x), (0, .ref b)]) hC dL_law_2580 (by decide) rfl ?_
  refine g_aload_n hC dL_law_2582 rfl 5 rfl ?_
  refine g_callV hC (rv := some (.int t)) [] (c_X5_thrown l D cy m w2 _ hF3) q_1332 q_137 q_1329 q_1330 q_1331 h9_X5_thrown (T := TX5) (N := 23) (ci := 5) rfl (fSm.k (fSm.tr hs2 hs1) hm) ⟨Nat.le_of_ble_eq_true rfl, Nat.le_of_ble_eq_true rfl⟩ ⟨by show _ + 0 ≤ 622912; omega, by show _ + 0 ≤ 7151591; omega⟩ (Nat.le_of_ble_eq_true rfl) rfl dL_law_2583 (fun h3 hh3 hs3 => ?_)
  refine g_cs (cells + 1) (slots + 6) rfl rfl ?_
  refine g_iload hC dL_law_2586 1 rfl ?_
  refine g_icmp_eq hC 2593 dL_law_2588 (by decide) (fun _ => ?_) (fun c9 => absurd ht c9)
  refine g_iload hC dL_law_2593 1 rfl ?_
  have KE : gAt X (cells + 1) (slots + 6) 9 w2 h3 (gE2 o (some (.inl (arrV (cy 5) 1 (fun _ => .long v)))) oD (some (.inl (wO rx (arrV (cy 6) 1 (fun _ => .double vD)) (fun v => arrV (cy 6) 1 (fun _ => .double (FP.f2d v))))))) [(7, .float b9), (6, .int (wK [3] rx)), (5, .int i), (4, .ref oD), (3, .ref o), (2, .ref m), (1, .ref x), (0, .ref b)] [] 2631 := by
    refine g_goto hC 2923 dL_law_2631 (by decide) ?_
    refine g_sub (L' := [(5, .int i), (4, .ref oD), (3, .ref o), (2, .ref m), (1, .ref x), (0, .ref b)]) [2, 3, 4, 5, 6, 7] rfl ?_
    refine g_widen (k' := cells + 3) (s' := slots + 18) (by omega) (by omega) ?_
    cases rx with
    | inl u => exact k _ _ _ (by omega)
    | inr e => exact k _ _ _ (by omega)
  refine g_if_ne hC 2631 dL_law_2595 (by decide) (fun _ => KE) (fun c9 => ?_)
  obtain ⟨u, rfl⟩ := wK_0 (by decide) hes c9
  obtain ⟨rfl, hn, hq⟩ := hv u rfl
  refine g_aload hC dL_law_2598 3 rfl ?_
  refine g_iconst (v := 0) hC dL_law_2600 (by decide) ?_
  refine g_daldE (v := (FP.f2d u)) hC (gE2_a _ _ _ _) dL_law_2601 ?_
  refine g_fload hC dL_law_2602 0 rfl ?_
  refine g_f2d hC hn dL_law_2604 ?_
  refine g_dcmp hC dL_law_2605 ?_
  rw [hq]
  exact g_if_eq hC 2631 dL_law_2606 (by decide) (fun _ => KE) (fun c9 => absurd rfl c9)
set_option maxHeartbeats 4000000 in
theorem law_36 {X : FX} {l : Launch} {D : va_G} {cy : Nat → ClassId} {b Ln : Nat} {xs : Nat → Int32} {cells slots h : Nat} {w w2 : FW} {i a1 a2 a3 : Int32} {x m o oD : Nat} {v : Int64} {vD : UInt64} (hC : fOK X cL_law 9 RL room_1 l D cy) (hst : l.stackTraces = false) (hN : gNcX X) (hS : gScr X b Ln xs) (ho : o < oD) (s1 : vp_in (i + 1) Ln) (e1 : xs (i + 1).toNatClampNeg = a1) (s2 : vp_in (i + 2) Ln) (e2 : xs (i + 2).toNatClampNeg = a2) (s3 : vp_in (i + 3) Ln) (e3 : xs (i + 3).toNatClampNeg = a3) (hx : w.1 x = 5) (hm : w.1 m = 6) (hc1 : cells + 3 ≤ 622912) (hc2 : slots + 18 ≤ 7151591) (hK : KK36 x m a1 a2 a3 w w2)
    (k : ∀ (h' : Nat) (v' : Int64) (vD' : UInt64), h ≤ h' → gAt X (cells + 3) (slots + 18) 9 w2 h' (EE cy o oD v' vD') [(5, .int i), (4, .ref oD), (3, .ref o), (2, .ref m), (1, .ref x), (0, .ref b)] [] 2923) : gAt X cells slots 9 w h (EE cy o oD v vD) [(5, .int i), (4, .ref oD), (3, .ref o), (2, .ref m), (1, .ref x), (0, .ref b)] [] 2634 := by
  obtain ⟨rx, w1, b9, t, hF1, hF2, hF3, hes, ht, hv⟩ := hK
  refine g_aload_n hC dL_law_2634 rfl 4 rfl ?_
  refine g_aload_n hC dL_law_2635 rfl 5 rfl ?_
  refine g_iload hC dL_law_2636 0 rfl ?_
  refine g_iconst (v := 1) hC dL_law_2638 (by decide) ?_
  refine g_iadd hC dL_law_2639 ?_
  refine g_sald hC hS s1 e1 dL_law_2640 ?_
  refine g_aload_n hC dL_law_2641 rfl 2 rfl ?_
  refine g_callW hC hst [.ref x, .int a1, .ref o] hN (c_L_append l D cy x a1 o w w1 v rx hF1 hx hes) q_1144 q_131 q_1142 q_1143 h9_L_append ⟨Nat.le_of_ble_eq_true rfl, Nat.le_of_ble_eq_true rfl⟩ ⟨by show _ + 1 ≤ 622912; omega, by show _ + 6 ≤ 7151591; omega⟩ (Nat.le_of_ble_eq_true rfl) (gE2_b _ _ ho) rfl dL_law_2642 (fun h1 hh1 hs1 => ?_)
  refine g_cs (cells + 1) (slots + 6) rfl rfl ?_
  refine g_nm h1 (gE2 o (some (.inl (wO rx (arrV (cy 5) 1 (fun _ => .long v)) (fun v => arrV (cy 5) 1 (fun _ => .long v.toInt64))))) oD (some (.inl (arrV (cy 6) 1 (fun _ => .double vD))))) w1 [(5, .int i), (4, .ref oD), (3, .ref o), (2, .ref m), (1, .ref x), (0, .ref b)] rfl (gE2_upb _ _ _ ho).symm rfl rfl ?_
  refine g_istore (L' := [(6, .int (wK [1, 0] rx)), (5, .int i), (4, .ref oD), (3, .ref o), (2, .ref m), (1, .ref x), (0, .ref b)]) hC dL_law_2645 (by decide) rfl ?_
  refine g_aload_n hC dL_law_2647 rfl 4 rfl ?_
  refine g_aload_n hC dL_law_2648 rfl 6 rfl ?_
  refine g_iload hC dL_law_2649 1 rfl ?_
  refine g_iconst (v := 1) hC dL_law_2651 (by decide) ?_
  refine g_iadd hC dL_law_2652 ?_
  refine g_sald hC hS s1 e1 dL_law_2653 ?_
  refine g_callV hC (rv := some (.int b9)) [.int a1] (c_X5_append l D cy m a1 w1 _ hF2) q_1701 q_137 q_1698 q_1699 q_1700 h9_X5_append (T := TX5) (N := 23) (ci := 5) rfl (fSm.k hs1 hm) ⟨Nat.le_of_ble_eq_true rfl, Nat.le_of_ble_eq_true rfl⟩ ⟨by show _ + 0 ≤ 622912; omega, by show _ + 0 ≤ 7151591; omega⟩ (Nat.le_of_ble_eq_true rfl) rfl dL_law_2654 (fun h2 hh2 hs2 => ?_)
  refine g_cs (cells + 1) (slots + 6) rfl rfl ?_
  refine g_istore (L' := [(7, .int b9), (6, .int (wK [1, 0] rx)), (5, .int i), (4, .ref oD), (3, .ref o), (2, .ref m), (1, .ref x), (0, .ref b)]) hC dL_law_2657 (by decide) rfl ?_
  refine g_aload_n hC dL_law_2659 rfl 5 rfl ?_
  refine g_callV hC (rv := some (.int t)) [] (c_X5_thrown l D cy m w2 _ hF3) q_1332 q_137 q_1329 q_1330 q_1331 h9_X5_thrown (T := TX5) (N := 23) (ci := 5) rfl (fSm.k (fSm.tr hs2 hs1) hm) ⟨Nat.le_of_ble_eq_true rfl, Nat.le_of_ble_eq_true rfl⟩ ⟨by show _ + 0 ≤ 622912; omega, by show _ + 0 ≤ 7151591; omega⟩ (Nat.le_of_ble_eq_true rfl) rfl dL_law_2660 (fun h3 hh3 hs3 => ?_)
  refine g_cs (cells + 1) (slots + 6) rfl rfl ?_
  refine g_iload hC dL_law_2663 1 rfl ?_
  refine g_icmp_eq hC 2670 dL_law_2665 (by decide) (fun _ => ?_) (fun c9 => absurd ht c9)
  refine g_iload hC dL_law_2670 1 rfl ?_
  have KE : gAt X (cells + 1) (slots + 6) 9 w2 h3 (gE2 o (some (.inl (wO rx (arrV (cy 5) 1 (fun _ => .long v)) (fun v => arrV (cy 5) 1 (fun _ => .long v.toInt64))))) oD (some (.inl (arrV (cy 6) 1 (fun _ => .double vD))))) [(7, .int b9), (6, .int (wK [1, 0] rx)), (5, .int i), (4, .ref oD), (3, .ref o), (2, .ref m), (1, .ref x), (0, .ref b)] [] 2687 := by
    refine g_goto hC 2923 dL_law_2687 (by decide) ?_
    refine g_sub (L' := [(5, .int i), (4, .ref oD), (3, .ref o), (2, .ref m), (1, .ref x), (0, .ref b)]) [2, 3, 4, 5, 6, 7] rfl ?_
    refine g_widen (k' := cells + 3) (s' := slots + 18) (by omega) (by omega) ?_
    cases rx with
    | inl u => exact k _ _ _ (by omega)
    | inr e => exact k _ _ _ (by omega)
  refine g_if_ne hC 2687 dL_law_2672 (by decide) (fun _ => KE) (fun c9 => ?_)
  obtain ⟨u, rfl⟩ := wK_0 (by decide) hes c9
  obtain rfl := hv u rfl
  refine g_aload_n hC dL_law_2675 rfl 4 rfl ?_
  refine g_iconst (v := 0) hC dL_law_2676 (by decide) ?_
  refine g_laldE (v := u.toInt64) hC (gE2_b _ _ ho) dL_law_2677 ?_
  refine g_iload hC dL_law_2678 0 rfl ?_
  refine g_i2l hC dL_law_2680 ?_
  refine g_lcmp hC dL_law_2681 ?_
  rw [lg_self]
  exact g_if_eq hC 2687 dL_law_2682 (by decide) (fun _ => KE) (fun c9 => absurd rfl c9)
set_option maxHeartbeats 4000000 in
theorem law_37 {X : FX} {l : Launch} {D : va_G} {cy : Nat → ClassId} {b Ln : Nat} {xs : Nat → Int32} {cells slots h : Nat} {w w2 : FW} {i a1 a2 a3 : Int32} {x m o oD : Nat} {v : Int64} {vD : UInt64} (hC : fOK X cL_law 9 RL room_1 l D cy) (hst : l.stackTraces = false) (hN : gNcX X) (hS : gScr X b Ln xs) (ho : o < oD) (s1 : vp_in (i + 1) Ln) (e1 : xs (i + 1).toNatClampNeg = a1) (s2 : vp_in (i + 2) Ln) (e2 : xs (i + 2).toNatClampNeg = a2) (s3 : vp_in (i + 3) Ln) (e3 : xs (i + 3).toNatClampNeg = a3) (hx : w.1 x = 5) (hm : w.1 m = 6) (hc1 : cells + 3 ≤ 622912) (hc2 : slots + 18 ≤ 7151591) (hK : KK37 x m a1 a2 a3 w w2)
    (k : ∀ (h' : Nat) (v' : Int64) (vD' : UInt64), h ≤ h' → gAt X (cells + 3) (slots + 18) 9 w2 h' (EE cy o oD v' vD') [(5, .int i), (4, .ref oD), (3, .ref o), (2, .ref m), (1, .ref x), (0, .ref b)] [] 2923) : gAt X cells slots 9 w h (EE cy o oD v vD) [(5, .int i), (4, .ref oD), (3, .ref o), (2, .ref m), (1, .ref x), (0, .ref b)] [] 2690 := by
  obtain ⟨rx, w1, b9, t, hF1, hF2, hF3, hes, ht, hv⟩ := hK
  refine g_aload_n hC dL_law_2690 rfl 4 rfl ?_
  refine g_aload_n hC dL_law_2691 rfl 2 rfl ?_
  refine g_callW hC hst [.ref x, .ref o] hN (c_L_read l D cy x o w w1 v rx hF1 hx hes) q_1153 q_131 q_1151 q_1152 h9_L_read ⟨Nat.le_of_ble_eq_true rfl, Nat.le_of_ble_eq_true rfl⟩ ⟨by show _ + 1 ≤ 622912; omega, by show _ + 6 ≤ 7151591; omega⟩ (Nat.le_of_ble_eq_true rfl) (gE2_b _ _ ho) rfl dL_law_2692 (fun h1 hh1 hs1 => ?_)
  refine g_cs (cells + 1) (slots + 6) rfl rfl ?_
  refine g_nm h1 (gE2 o (some (.inl (wO rx (arrV (cy 5) 1 (fun _ => .long v)) (fun v => arrV (cy 5) 1 (fun _ => .long v.toInt64))))) oD (some (.inl (arrV (cy 6) 1 (fun _ => .double vD))))) w1 [(5, .int i), (4, .ref oD), (3, .ref o), (2, .ref m), (1, .ref x), (0, .ref b)] rfl (gE2_upb _ _ _ ho).symm rfl rfl ?_
  refine g_istore (L' := [(6, .int (wK [1, 4] rx)), (5, .int i), (4, .ref oD), (3, .ref o), (2, .ref m), (1, .ref x), (0, .ref b)]) hC dL_law_2695 (by decide) rfl ?_
  refine g_aload_n hC dL_law_2697 rfl 4 rfl ?_
  refine g_callV hC (rv := some (.int b9)) [] (c_X5_read l D cy m w1 _ hF2) q_1705 q_137 q_1702 q_1703 q_1704 h9_X5_read (T := TX5) (N := 23) (ci := 5) rfl (fSm.k hs1 hm) ⟨Nat.le_of_ble_eq_true rfl, Nat.le_of_ble_eq_true rfl⟩ ⟨by show _ + 0 ≤ 622912; omega, by show _ + 0 ≤ 7151591; omega⟩ (Nat.le_of_ble_eq_true rfl) rfl dL_law_2698 (fun h2 hh2 hs2 => ?_)
  refine g_cs (cells + 1) (slots + 6) rfl rfl ?_
  refine g_istore (L' := [(7, .int b9), (6, .int (wK [1, 4] rx)), (5, .int i), (4, .ref oD), (3, .ref o), (2, .ref m), (1, .ref x), (0, .ref b)]) hC dL_law_2701 (by decide) rfl ?_
  refine g_aload_n hC dL_law_2703 rfl 5 rfl ?_
  refine g_callV hC (rv := some (.int t)) [] (c_X5_thrown l D cy m w2 _ hF3) q_1332 q_137 q_1329 q_1330 q_1331 h9_X5_thrown (T := TX5) (N := 23) (ci := 5) rfl (fSm.k (fSm.tr hs2 hs1) hm) ⟨Nat.le_of_ble_eq_true rfl, Nat.le_of_ble_eq_true rfl⟩ ⟨by show _ + 0 ≤ 622912; omega, by show _ + 0 ≤ 7151591; omega⟩ (Nat.le_of_ble_eq_true rfl) rfl dL_law_2704 (fun h3 hh3 hs3 => ?_)
  refine g_cs (cells + 1) (slots + 6) rfl rfl ?_
  refine g_iload hC dL_law_2707 1 rfl ?_
  refine g_icmp_eq hC 2714 dL_law_2709 (by decide) (fun _ => ?_) (fun c9 => absurd ht c9)
  refine g_iload hC dL_law_2714 1 rfl ?_
  have KE : gAt X (cells + 1) (slots + 6) 9 w2 h3 (gE2 o (some (.inl (wO rx (arrV (cy 5) 1 (fun _ => .long v)) (fun v => arrV (cy 5) 1 (fun _ => .long v.toInt64))))) oD (some (.inl (arrV (cy 6) 1 (fun _ => .double vD))))) [(7, .int b9), (6, .int (wK [1, 4] rx)), (5, .int i), (4, .ref oD), (3, .ref o), (2, .ref m), (1, .ref x), (0, .ref b)] [] 2731 := by
    refine g_goto hC 2923 dL_law_2731 (by decide) ?_
    refine g_sub (L' := [(5, .int i), (4, .ref oD), (3, .ref o), (2, .ref m), (1, .ref x), (0, .ref b)]) [2, 3, 4, 5, 6, 7] rfl ?_
    refine g_widen (k' := cells + 3) (s' := slots + 18) (by omega) (by omega) ?_
    cases rx with
    | inl u => exact k _ _ _ (by omega)
    | inr e => exact k _ _ _ (by omega)
  refine g_if_ne hC 2731 dL_law_2716 (by decide) (fun _ => KE) (fun c9 => ?_)
  obtain ⟨u, rfl⟩ := wK_0 (by decide) hes c9
  obtain rfl := hv u rfl
  refine g_aload_n hC dL_law_2719 rfl 4 rfl ?_
  refine g_iconst (v := 0) hC dL_law_2720 (by decide) ?_
  refine g_laldE (v := u.toInt64) hC (gE2_b _ _ ho) dL_law_2721 ?_
  refine g_iload hC dL_law_2722 0 rfl ?_
  refine g_i2l hC dL_law_2724 ?_
  refine g_lcmp hC dL_law_2725 ?_
  rw [lg_self]
  exact g_if_eq hC 2731 dL_law_2726 (by decide) (fun _ => KE) (fun c9 => absurd rfl c9)
set_option maxHeartbeats 4000000 in
theorem law_38 {X : FX} {l : Launch} {D : va_G} {cy : Nat → ClassId} {b Ln : Nat} {xs : Nat → Int32} {cells slots h : Nat} {w w2 : FW} {i a1 a2 a3 : Int32} {x m o oD : Nat} {v : Int64} {vD : UInt64} (hC : fOK X cL_law 9 RL room_1 l D cy) (hst : l.stackTraces = false) (hN : gNcX X) (hS : gScr X b Ln xs) (ho : o < oD) (s1 : vp_in (i + 1) Ln) (e1 : xs (i + 1).toNatClampNeg = a1) (s2 : vp_in (i + 2) Ln) (e2 : xs (i + 2).toNatClampNeg = a2) (s3 : vp_in (i + 3) Ln) (e3 : xs (i + 3).toNatClampNeg = a3) (hx : w.1 x = 5) (hm : w.1 m = 6) (hc1 : cells + 3 ≤ 622912) (hc2 : slots + 18 ≤ 7151591) (hK : KK38 x m a1 a2 a3 w w2)
    (k : ∀ (h' : Nat) (v' : Int64) (vD' : UInt64), h ≤ h' → gAt X (cells + 3) (slots + 18) 9 w2 h' (EE cy o oD v' vD') [(5, .int i), (4, .ref oD), (3, .ref o), (2, .ref m), (1, .ref x), (0, .ref b)] [] 2923) : gAt X cells slots 9 w h (EE cy o oD v vD) [(5, .int i), (4, .ref oD), (3, .ref o), (2, .ref m), (1, .ref x), (0, .ref b)] [] 2734 := by
  obtain ⟨rx, b9, t, hF1, hF2, hF3, hes, ht, hv⟩ := hK
  refine g_aload_n hC dL_law_2734 rfl 4 rfl ?_
  refine g_aload_n hC dL_law_2735 rfl 2 rfl ?_
  refine g_callW hC hst [.ref x, .ref o] hN (c_L_errorPosition l D cy x o w v rx hF1 hx hes) q_1223 q_131 q_1221 q_1222 h9_L_errorPosition ⟨Nat.le_of_ble_eq_true rfl, Nat.le_of_ble_eq_true rfl⟩ ⟨by show _ + 1 ≤ 622912; omega, by show _ + 6 ≤ 7151591; omega⟩ (Nat.le_of_ble_eq_true rfl) (gE2_b _ _ ho) rfl dL_law_2736 (fun h1 hh1 hs1 => ?_)
  refine g_cs (cells + 1) (slots + 6) rfl rfl ?_
  refine g_nm h1 (gE2 o (some (.inl (wO rx (arrV (cy 5) 1 (fun _ => .long v)) (fun v => arrV (cy 5) 1 (fun _ => .long v.toInt64))))) oD (some (.inl (arrV (cy 6) 1 (fun _ => .double vD))))) w [(5, .int i), (4, .ref oD), (3, .ref o), (2, .ref m), (1, .ref x), (0, .ref b)] rfl (gE2_upb _ _ _ ho).symm rfl rfl ?_
  refine g_istore (L' := [(6, .int (wK [5] rx)), (5, .int i), (4, .ref oD), (3, .ref o), (2, .ref m), (1, .ref x), (0, .ref b)]) hC dL_law_2739 (by decide) rfl ?_
  refine g_aload_n hC dL_law_2741 rfl 4 rfl ?_
  refine g_callV hC (rv := some (.int b9)) [] (c_X5_errorPosition l D cy m w _ hF2) q_1741 q_137 q_1738 q_1739 q_1740 h9_X5_errorPosition (T := TX5) (N := 23) (ci := 5) rfl (fSm.k hs1 hm) ⟨Nat.le_of_ble_eq_true rfl, Nat.le_of_ble_eq_true rfl⟩ ⟨by show _ + 0 ≤ 622912; omega, by show _ + 0 ≤ 7151591; omega⟩ (Nat.le_of_ble_eq_true rfl) rfl dL_law_2742 (fun h2 hh2 hs2 => ?_)
  refine g_cs (cells + 1) (slots + 6) rfl rfl ?_
  refine g_istore (L' := [(7, .int b9), (6, .int (wK [5] rx)), (5, .int i), (4, .ref oD), (3, .ref o), (2, .ref m), (1, .ref x), (0, .ref b)]) hC dL_law_2745 (by decide) rfl ?_
  refine g_aload_n hC dL_law_2747 rfl 5 rfl ?_
  refine g_callV hC (rv := some (.int t)) [] (c_X5_thrown l D cy m w2 _ hF3) q_1332 q_137 q_1329 q_1330 q_1331 h9_X5_thrown (T := TX5) (N := 23) (ci := 5) rfl (fSm.k (fSm.tr hs2 hs1) hm) ⟨Nat.le_of_ble_eq_true rfl, Nat.le_of_ble_eq_true rfl⟩ ⟨by show _ + 0 ≤ 622912; omega, by show _ + 0 ≤ 7151591; omega⟩ (Nat.le_of_ble_eq_true rfl) rfl dL_law_2748 (fun h3 hh3 hs3 => ?_)
  refine g_cs (cells + 1) (slots + 6) rfl rfl ?_
  refine g_iload hC dL_law_2751 1 rfl ?_
  refine g_icmp_eq hC 2758 dL_law_2753 (by decide) (fun _ => ?_) (fun c9 => absurd ht c9)
  refine g_iload hC dL_law_2758 1 rfl ?_
  have KE : gAt X (cells + 1) (slots + 6) 9 w2 h3 (gE2 o (some (.inl (wO rx (arrV (cy 5) 1 (fun _ => .long v)) (fun v => arrV (cy 5) 1 (fun _ => .long v.toInt64))))) oD (some (.inl (arrV (cy 6) 1 (fun _ => .double vD))))) [(7, .int b9), (6, .int (wK [5] rx)), (5, .int i), (4, .ref oD), (3, .ref o), (2, .ref m), (1, .ref x), (0, .ref b)] [] 2775 := by
    refine g_goto hC 2923 dL_law_2775 (by decide) ?_
    refine g_sub (L' := [(5, .int i), (4, .ref oD), (3, .ref o), (2, .ref m), (1, .ref x), (0, .ref b)]) [2, 3, 4, 5, 6, 7] rfl ?_
    refine g_widen (k' := cells + 3) (s' := slots + 18) (by omega) (by omega) ?_
    cases rx with
    | inl u => exact k _ _ _ (by omega)
    | inr e => exact k _ _ _ (by omega)
  refine g_if_ne hC 2775 dL_law_2760 (by decide) (fun _ => KE) (fun c9 => ?_)
  obtain ⟨u, rfl⟩ := wK_0 (by decide) hes c9
  obtain rfl := hv u rfl
  refine g_aload_n hC dL_law_2763 rfl 4 rfl ?_
  refine g_iconst (v := 0) hC dL_law_2764 (by decide) ?_
  refine g_laldE (v := u.toInt64) hC (gE2_b _ _ ho) dL_law_2765 ?_
  refine g_iload hC dL_law_2766 0 rfl ?_
  refine g_i2l hC dL_law_2768 ?_
  refine g_lcmp hC dL_law_2769 ?_
  rw [lg_self]
  exact g_if_eq hC 2775 dL_law_2770 (by decide) (fun _ => KE) (fun c9 => absurd rfl c9)
set_option maxHeartbeats 4000000 in
theorem law_39 {X : FX} {l : Launch} {D : va_G} {cy : Nat → ClassId} {b Ln : Nat} {xs : Nat → Int32} {cells slots h : Nat} {w w2 : FW} {i a1 a2 a3 : Int32} {x m o oD : Nat} {v : Int64} {vD : UInt64} (hC : fOK X cL_law 9 RL room_1 l D cy) (hst : l.stackTraces = false) (hN : gNcX X) (hS : gScr X b Ln xs) (ho : o < oD) (s1 : vp_in (i + 1) Ln) (e1 : xs (i + 1).toNatClampNeg = a1) (s2 : vp_in (i + 2) Ln) (e2 : xs (i + 2).toNatClampNeg = a2) (s3 : vp_in (i + 3) Ln) (e3 : xs (i + 3).toNatClampNeg = a3) (hx : w.1 x = 5) (hm : w.1 m = 6) (hc1 : cells + 3 ≤ 622912) (hc2 : slots + 18 ≤ 7151591) (hK : KK39 x m a1 a2 a3 w w2)
    (k : ∀ (h' : Nat) (v' : Int64) (vD' : UInt64), h ≤ h' → gAt X (cells + 3) (slots + 18) 9 w2 h' (EE cy o oD v' vD') [(5, .int i), (4, .ref oD), (3, .ref o), (2, .ref m), (1, .ref x), (0, .ref b)] [] 2923) : gAt X cells slots 9 w h (EE cy o oD v vD) [(5, .int i), (4, .ref oD), (3, .ref o), (2, .ref m), (1, .ref x), (0, .ref b)] [] 2778 := by
  obtain ⟨rx, b9, t, hF1, hF2, hF3, hes, ht, hv⟩ := hK
  refine g_aload_n hC dL_law_2778 rfl 4 rfl ?_
  refine g_aload_n hC dL_law_2779 rfl 2 rfl ?_
  refine g_callW hC hst [.ref x, .ref o] hN (c_L_refusedItem l D cy x o w v rx hF1 hx hes) q_1231 q_131 q_1229 q_1230 h9_L_refusedItem ⟨Nat.le_of_ble_eq_true rfl, Nat.le_of_ble_eq_true rfl⟩ ⟨by show _ + 1 ≤ 622912; omega, by show _ + 6 ≤ 7151591; omega⟩ (Nat.le_of_ble_eq_true rfl) (gE2_b _ _ ho) rfl dL_law_2780 (fun h1 hh1 hs1 => ?_)
  refine g_cs (cells + 1) (slots + 6) rfl rfl ?_
  refine g_nm h1 (gE2 o (some (.inl (wO rx (arrV (cy 5) 1 (fun _ => .long v)) (fun v => arrV (cy 5) 1 (fun _ => .long v.toInt64))))) oD (some (.inl (arrV (cy 6) 1 (fun _ => .double vD))))) w [(5, .int i), (4, .ref oD), (3, .ref o), (2, .ref m), (1, .ref x), (0, .ref b)] rfl (gE2_upb _ _ _ ho).symm rfl rfl ?_
  refine g_istore (L' := [(6, .int (wK [5] rx)), (5, .int i), (4, .ref oD), (3, .ref o), (2, .ref m), (1, .ref x), (0, .ref b)]) hC dL_law_2783 (by decide) rfl ?_
  refine g_aload_n hC dL_law_2785 rfl 4 rfl ?_
  refine g_callV hC (rv := some (.int b9)) [] (c_X5_refusedItem l D cy m w _ hF2) q_1745 q_137 q_1742 q_1743 q_1744 h9_X5_refusedItem (T := TX5) (N := 23) (ci := 5) rfl (fSm.k hs1 hm) ⟨Nat.le_of_ble_eq_true rfl, Nat.le_of_ble_eq_true rfl⟩ ⟨by show _ + 0 ≤ 622912; omega, by show _ + 0 ≤ 7151591; omega⟩ (Nat.le_of_ble_eq_true rfl) rfl dL_law_2786 (fun h2 hh2 hs2 => ?_)
  refine g_cs (cells + 1) (slots + 6) rfl rfl ?_
  refine g_istore (L' := [(7, .int b9), (6, .int (wK [5] rx)), (5, .int i), (4, .ref oD), (3, .ref o), (2, .ref m), (1, .ref x), (0, .ref b)]) hC dL_law_2789 (by decide) rfl ?_
  refine g_aload_n hC dL_law_2791 rfl 5 rfl ?_
  refine g_callV hC (rv := some (.int t)) [] (c_X5_thrown l D cy m w2 _ hF3) q_1332 q_137 q_1329 q_1330 q_1331 h9_X5_thrown (T := TX5) (N := 23) (ci := 5) rfl (fSm.k (fSm.tr hs2 hs1) hm) ⟨Nat.le_of_ble_eq_true rfl, Nat.le_of_ble_eq_true rfl⟩ ⟨by show _ + 0 ≤ 622912; omega, by show _ + 0 ≤ 7151591; omega⟩ (Nat.le_of_ble_eq_true rfl) rfl dL_law_2792 (fun h3 hh3 hs3 => ?_)
  refine g_cs (cells + 1) (slots + 6) rfl rfl ?_
  refine g_iload hC dL_law_2795 1 rfl ?_
  refine g_icmp_eq hC 2802 dL_law_2797 (by decide) (fun _ => ?_) (fun c9 => absurd ht c9)
  refine g_iload hC dL_law_2802 1 rfl ?_
  have KE : gAt X (cells + 1) (slots + 6) 9 w2 h3 (gE2 o (some (.inl (wO rx (arrV (cy 5) 1 (fun _ => .long v)) (fun v => arrV (cy 5) 1 (fun _ => .long v.toInt64))))) oD (some (.inl (arrV (cy 6) 1 (fun _ => .double vD))))) [(7, .int b9), (6, .int (wK [5] rx)), (5, .int i), (4, .ref oD), (3, .ref o), (2, .ref m), (1, .ref x), (0, .ref b)] [] 2819 := by
    refine g_goto hC 2923 dL_law_2819 (by decide) ?_
    refine g_sub (L' := [(5, .int i), (4, .ref oD), (3, .ref o), (2, .ref m), (1, .ref x), (0, .ref b)]) [2, 3, 4, 5, 6, 7] rfl ?_
    refine g_widen (k' := cells + 3) (s' := slots + 18) (by omega) (by omega) ?_
    cases rx with
    | inl u => exact k _ _ _ (by omega)
    | inr e => exact k _ _ _ (by omega)
  refine g_if_ne hC 2819 dL_law_2804 (by decide) (fun _ => KE) (fun c9 => ?_)
  obtain ⟨u, rfl⟩ := wK_0 (by decide) hes c9
  obtain rfl := hv u rfl
  refine g_aload_n hC dL_law_2807 rfl 4 rfl ?_
  refine g_iconst (v := 0) hC dL_law_2808 (by decide) ?_
  refine g_laldE (v := u.toInt64) hC (gE2_b _ _ ho) dL_law_2809 ?_
  refine g_iload hC dL_law_2810 0 rfl ?_
  refine g_i2l hC dL_law_2812 ?_
  refine g_lcmp hC dL_law_2813 ?_
  rw [lg_self]
  exact g_if_eq hC 2819 dL_law_2814 (by decide) (fun _ => KE) (fun c9 => absurd rfl c9)
set_option maxHeartbeats 4000000 in
theorem law_40 {X : FX} {l : Launch} {D : va_G} {cy : Nat → ClassId} {b Ln : Nat} {xs : Nat → Int32} {cells slots h : Nat} {w w2 : FW} {i a1 a2 a3 : Int32} {x m o oD : Nat} {v : Int64} {vD : UInt64} (hC : fOK X cL_law 9 RL room_1 l D cy) (hst : l.stackTraces = false) (hN : gNcX X) (hS : gScr X b Ln xs) (ho : o < oD) (s1 : vp_in (i + 1) Ln) (e1 : xs (i + 1).toNatClampNeg = a1) (s2 : vp_in (i + 2) Ln) (e2 : xs (i + 2).toNatClampNeg = a2) (s3 : vp_in (i + 3) Ln) (e3 : xs (i + 3).toNatClampNeg = a3) (hx : w.1 x = 5) (hm : w.1 m = 6) (hc1 : cells + 3 ≤ 622912) (hc2 : slots + 18 ≤ 7151591) (hK : KK40 x m a1 a2 a3 w w2)
    (k : ∀ (h' : Nat) (v' : Int64) (vD' : UInt64), h ≤ h' → gAt X (cells + 3) (slots + 18) 9 w2 h' (EE cy o oD v' vD') [(5, .int i), (4, .ref oD), (3, .ref o), (2, .ref m), (1, .ref x), (0, .ref b)] [] 2923) : gAt X cells slots 9 w h (EE cy o oD v vD) [(5, .int i), (4, .ref oD), (3, .ref o), (2, .ref m), (1, .ref x), (0, .ref b)] [] 2822 := by
  obtain ⟨rx, w1, b9, t, hF1, hF2, hF3, hes, ht, hv⟩ := hK
  refine g_aload_n hC dL_law_2822 rfl 4 rfl ?_
  refine g_aload_n hC dL_law_2823 rfl 2 rfl ?_
  refine g_callW hC hst [.ref x, .ref o] hN (c_L_undo l D cy x o w w1 v rx hF1 hx hes) q_1239 q_131 q_1237 q_1238 h9_L_undo ⟨Nat.le_of_ble_eq_true rfl, Nat.le_of_ble_eq_true rfl⟩ ⟨by show _ + 1 ≤ 622912; omega, by show _ + 6 ≤ 7151591; omega⟩ (Nat.le_of_ble_eq_true rfl) (gE2_b _ _ ho) rfl dL_law_2824 (fun h1 hh1 hs1 => ?_)
  refine g_cs (cells + 1) (slots + 6) rfl rfl ?_
  refine g_nm h1 (gE2 o (some (.inl (wO rx (arrV (cy 5) 1 (fun _ => .long v)) (fun v => arrV (cy 5) 1 (fun _ => .long v.toInt64))))) oD (some (.inl (arrV (cy 6) 1 (fun _ => .double vD))))) w1 [(5, .int i), (4, .ref oD), (3, .ref o), (2, .ref m), (1, .ref x), (0, .ref b)] rfl (gE2_upb _ _ _ ho).symm rfl rfl ?_
  refine g_istore (L' := [(6, .int (wK [0] rx)), (5, .int i), (4, .ref oD), (3, .ref o), (2, .ref m), (1, .ref x), (0, .ref b)]) hC dL_law_2827 (by decide) rfl ?_
  refine g_aload_n hC dL_law_2829 rfl 4 rfl ?_
  refine g_callV hC (rv := some (.int b9)) [] (c_X5_undo l D cy m w1 _ hF2) q_1749 q_137 q_1746 q_1747 q_1748 h9_X5_undo (T := TX5) (N := 23) (ci := 5) rfl (fSm.k hs1 hm) ⟨Nat.le_of_ble_eq_true rfl, Nat.le_of_ble_eq_true rfl⟩ ⟨by show _ + 0 ≤ 622912; omega, by show _ + 0 ≤ 7151591; omega⟩ (Nat.le_of_ble_eq_true rfl) rfl dL_law_2830 (fun h2 hh2 hs2 => ?_)
  refine g_cs (cells + 1) (slots + 6) rfl rfl ?_
  refine g_istore (L' := [(7, .int b9), (6, .int (wK [0] rx)), (5, .int i), (4, .ref oD), (3, .ref o), (2, .ref m), (1, .ref x), (0, .ref b)]) hC dL_law_2833 (by decide) rfl ?_
  refine g_aload_n hC dL_law_2835 rfl 5 rfl ?_
  refine g_callV hC (rv := some (.int t)) [] (c_X5_thrown l D cy m w2 _ hF3) q_1332 q_137 q_1329 q_1330 q_1331 h9_X5_thrown (T := TX5) (N := 23) (ci := 5) rfl (fSm.k (fSm.tr hs2 hs1) hm) ⟨Nat.le_of_ble_eq_true rfl, Nat.le_of_ble_eq_true rfl⟩ ⟨by show _ + 0 ≤ 622912; omega, by show _ + 0 ≤ 7151591; omega⟩ (Nat.le_of_ble_eq_true rfl) rfl dL_law_2836 (fun h3 hh3 hs3 => ?_)
  refine g_cs (cells + 1) (slots + 6) rfl rfl ?_
  refine g_iload hC dL_law_2839 1 rfl ?_
  refine g_icmp_eq hC 2846 dL_law_2841 (by decide) (fun _ => ?_) (fun c9 => absurd ht c9)
  refine g_iload hC dL_law_2846 1 rfl ?_
  have KE : gAt X (cells + 1) (slots + 6) 9 w2 h3 (gE2 o (some (.inl (wO rx (arrV (cy 5) 1 (fun _ => .long v)) (fun v => arrV (cy 5) 1 (fun _ => .long v.toInt64))))) oD (some (.inl (arrV (cy 6) 1 (fun _ => .double vD))))) [(7, .int b9), (6, .int (wK [0] rx)), (5, .int i), (4, .ref oD), (3, .ref o), (2, .ref m), (1, .ref x), (0, .ref b)] [] 2863 := by
    refine g_goto hC 2923 dL_law_2863 (by decide) ?_
    refine g_sub (L' := [(5, .int i), (4, .ref oD), (3, .ref o), (2, .ref m), (1, .ref x), (0, .ref b)]) [2, 3, 4, 5, 6, 7] rfl ?_
    refine g_widen (k' := cells + 3) (s' := slots + 18) (by omega) (by omega) ?_
    cases rx with
    | inl u => exact k _ _ _ (by omega)
    | inr e => exact k _ _ _ (by omega)
  refine g_if_ne hC 2863 dL_law_2848 (by decide) (fun _ => KE) (fun c9 => ?_)
  obtain ⟨u, rfl⟩ := wK_0 (by decide) hes c9
  obtain rfl := hv u rfl
  refine g_aload_n hC dL_law_2851 rfl 4 rfl ?_
  refine g_iconst (v := 0) hC dL_law_2852 (by decide) ?_
  refine g_laldE (v := u.toInt64) hC (gE2_b _ _ ho) dL_law_2853 ?_
  refine g_iload hC dL_law_2854 0 rfl ?_
  refine g_i2l hC dL_law_2856 ?_
  refine g_lcmp hC dL_law_2857 ?_
  rw [lg_self]
  exact g_if_eq hC 2863 dL_law_2858 (by decide) (fun _ => KE) (fun c9 => absurd rfl c9)
set_option maxHeartbeats 4000000 in
theorem law_41 {X : FX} {l : Launch} {D : va_G} {cy : Nat → ClassId} {b Ln : Nat} {xs : Nat → Int32} {cells slots h : Nat} {w w2 : FW} {i a1 a2 a3 : Int32} {x m o oD : Nat} {v : Int64} {vD : UInt64} (hC : fOK X cL_law 9 RL room_1 l D cy) (hst : l.stackTraces = false) (hN : gNcX X) (hS : gScr X b Ln xs) (ho : o < oD) (s1 : vp_in (i + 1) Ln) (e1 : xs (i + 1).toNatClampNeg = a1) (s2 : vp_in (i + 2) Ln) (e2 : xs (i + 2).toNatClampNeg = a2) (s3 : vp_in (i + 3) Ln) (e3 : xs (i + 3).toNatClampNeg = a3) (hx : w.1 x = 5) (hm : w.1 m = 6) (hc1 : cells + 3 ≤ 622912) (hc2 : slots + 18 ≤ 7151591) (hK : KK41 x m a1 a2 a3 w w2)
    (k : ∀ (h' : Nat) (v' : Int64) (vD' : UInt64), h ≤ h' → gAt X (cells + 3) (slots + 18) 9 w2 h' (EE cy o oD v' vD') [(5, .int i), (4, .ref oD), (3, .ref o), (2, .ref m), (1, .ref x), (0, .ref b)] [] 2923) : gAt X cells slots 9 w h (EE cy o oD v vD) [(5, .int i), (4, .ref oD), (3, .ref o), (2, .ref m), (1, .ref x), (0, .ref b)] [] 2866 := by
  obtain ⟨rx, w1, b9, hF1, hF2, hv⟩ := hK
  refine g_aload_n hC dL_law_2866 rfl 4 rfl ?_
  refine g_callV hC (rv := some (.int rx)) [] (c_X4_snapshot l D cy x w _ hF1) q_620 q_132 q_617 q_618 q_619 h9_X4_snapshot (T := TX4) (N := 15) (ci := 4) rfl hx ⟨Nat.le_of_ble_eq_true rfl, Nat.le_of_ble_eq_true rfl⟩ ⟨by show _ + 0 ≤ 622912; omega, by show _ + 0 ≤ 7151591; omega⟩ (Nat.le_of_ble_eq_true rfl) rfl dL_law_2867 (fun h1 hh1 hs1 => ?_)
  refine g_cs cells slots rfl rfl ?_
  refine g_aload_n hC dL_law_2870 rfl 3 rfl ?_
  refine g_callV hC (rv := some (.int b9)) [] (c_X5_snapshot l D cy m w1 _ hF2) q_1753 q_137 q_1750 q_1751 q_1752 h9_X5_snapshot (T := TX5) (N := 23) (ci := 5) rfl (fSm.k hs1 hm) ⟨Nat.le_of_ble_eq_true rfl, Nat.le_of_ble_eq_true rfl⟩ ⟨by show _ + 0 ≤ 622912; omega, by show _ + 0 ≤ 7151591; omega⟩ (Nat.le_of_ble_eq_true rfl) rfl dL_law_2871 (fun h2 hh2 hs2 => ?_)
  refine g_cs cells slots rfl rfl ?_
  refine g_icmp_eq hC 2923 dL_law_2874 (by decide) (fun _ => ?_) (fun c9 => absurd hv c9)
  refine g_widen (k' := cells + 3) (s' := slots + 18) (by omega) (by omega) ?_
  exact k _ _ _ (by omega)
set_option maxHeartbeats 4000000 in
theorem law_42 {X : FX} {l : Launch} {D : va_G} {cy : Nat → ClassId} {b Ln : Nat} {xs : Nat → Int32} {cells slots h : Nat} {w w2 : FW} {i a1 a2 a3 : Int32} {x m o oD : Nat} {v : Int64} {vD : UInt64} (hC : fOK X cL_law 9 RL room_1 l D cy) (hst : l.stackTraces = false) (hN : gNcX X) (hS : gScr X b Ln xs) (ho : o < oD) (s1 : vp_in (i + 1) Ln) (e1 : xs (i + 1).toNatClampNeg = a1) (s2 : vp_in (i + 2) Ln) (e2 : xs (i + 2).toNatClampNeg = a2) (s3 : vp_in (i + 3) Ln) (e3 : xs (i + 3).toNatClampNeg = a3) (hx : w.1 x = 5) (hm : w.1 m = 6) (hc1 : cells + 3 ≤ 622912) (hc2 : slots + 18 ≤ 7151591) (hK : KK42 x m a1 a2 a3 w w2)
    (k : ∀ (h' : Nat) (v' : Int64) (vD' : UInt64), h ≤ h' → gAt X (cells + 3) (slots + 18) 9 w2 h' (EE cy o oD v' vD') [(5, .int i), (4, .ref oD), (3, .ref o), (2, .ref m), (1, .ref x), (0, .ref b)] [] 2923) : gAt X cells slots 9 w h (EE cy o oD v vD) [(5, .int i), (4, .ref oD), (3, .ref o), (2, .ref m), (1, .ref x), (0, .ref b)] [] 2879 := by
  obtain ⟨rx, w1, b9, t, hF1, hF2, hF3, hes, ht, hv⟩ := hK
  refine g_aload_n hC dL_law_2879 rfl 4 rfl ?_
  refine g_aload_n hC dL_law_2880 rfl 2 rfl ?_
  refine g_callW hC hst [.ref x, .ref o] hN (c_L_restore l D cy x o w w1 v rx hF1 hx hes) q_1247 q_131 q_1245 q_1246 h9_L_restore ⟨Nat.le_of_ble_eq_true rfl, Nat.le_of_ble_eq_true rfl⟩ ⟨by show _ + 1 ≤ 622912; omega, by show _ + 6 ≤ 7151591; omega⟩ (Nat.le_of_ble_eq_true rfl) (gE2_b _ _ ho) rfl dL_law_2881 (fun h1 hh1 hs1 => ?_)
  refine g_cs (cells + 1) (slots + 6) rfl rfl ?_
  refine g_nm h1 (gE2 o (some (.inl (wO rx (arrV (cy 5) 1 (fun _ => .long v)) (fun v => arrV (cy 5) 1 (fun _ => .long v.toInt64))))) oD (some (.inl (arrV (cy 6) 1 (fun _ => .double vD))))) w1 [(5, .int i), (4, .ref oD), (3, .ref o), (2, .ref m), (1, .ref x), (0, .ref b)] rfl (gE2_upb _ _ _ ho).symm rfl rfl ?_
  refine g_istore (L' := [(6, .int (wK [0] rx)), (5, .int i), (4, .ref oD), (3, .ref o), (2, .ref m), (1, .ref x), (0, .ref b)]) hC dL_law_2884 (by decide) rfl ?_
  refine g_aload_n hC dL_law_2886 rfl 4 rfl ?_
  refine g_callV hC (rv := some (.int b9)) [] (c_X5_restore l D cy m w1 _ hF2) q_1757 q_137 q_1754 q_1755 q_1756 h9_X5_restore (T := TX5) (N := 23) (ci := 5) rfl (fSm.k hs1 hm) ⟨Nat.le_of_ble_eq_true rfl, Nat.le_of_ble_eq_true rfl⟩ ⟨by show _ + 0 ≤ 622912; omega, by show _ + 0 ≤ 7151591; omega⟩ (Nat.le_of_ble_eq_true rfl) rfl dL_law_2887 (fun h2 hh2 hs2 => ?_)
  refine g_cs (cells + 1) (slots + 6) rfl rfl ?_
  refine g_istore (L' := [(7, .int b9), (6, .int (wK [0] rx)), (5, .int i), (4, .ref oD), (3, .ref o), (2, .ref m), (1, .ref x), (0, .ref b)]) hC dL_law_2890 (by decide) rfl ?_
  refine g_aload_n hC dL_law_2892 rfl 5 rfl ?_
  refine g_callV hC (rv := some (.int t)) [] (c_X5_thrown l D cy m w2 _ hF3) q_1332 q_137 q_1329 q_1330 q_1331 h9_X5_thrown (T := TX5) (N := 23) (ci := 5) rfl (fSm.k (fSm.tr hs2 hs1) hm) ⟨Nat.le_of_ble_eq_true rfl, Nat.le_of_ble_eq_true rfl⟩ ⟨by show _ + 0 ≤ 622912; omega, by show _ + 0 ≤ 7151591; omega⟩ (Nat.le_of_ble_eq_true rfl) rfl dL_law_2893 (fun h3 hh3 hs3 => ?_)
  refine g_cs (cells + 1) (slots + 6) rfl rfl ?_
  refine g_iload hC dL_law_2896 1 rfl ?_
  refine g_icmp_eq hC 2903 dL_law_2898 (by decide) (fun _ => ?_) (fun c9 => absurd ht c9)
  refine g_iload hC dL_law_2903 1 rfl ?_
  have KE : gAt X (cells + 1) (slots + 6) 9 w2 h3 (gE2 o (some (.inl (wO rx (arrV (cy 5) 1 (fun _ => .long v)) (fun v => arrV (cy 5) 1 (fun _ => .long v.toInt64))))) oD (some (.inl (arrV (cy 6) 1 (fun _ => .double vD))))) [(7, .int b9), (6, .int (wK [0] rx)), (5, .int i), (4, .ref oD), (3, .ref o), (2, .ref m), (1, .ref x), (0, .ref b)] [] 2920 := by
    refine g_goto hC 2923 dL_law_2920 (by decide) ?_
    refine g_sub (L' := [(5, .int i), (4, .ref oD), (3, .ref o), (2, .ref m), (1, .ref x), (0, .ref b)]) [2, 3, 4, 5, 6, 7] rfl ?_
    refine g_widen (k' := cells + 3) (s' := slots + 18) (by omega) (by omega) ?_
    cases rx with
    | inl u => exact k _ _ _ (by omega)
    | inr e => exact k _ _ _ (by omega)
  refine g_if_ne hC 2920 dL_law_2905 (by decide) (fun _ => KE) (fun c9 => ?_)
  obtain ⟨u, rfl⟩ := wK_0 (by decide) hes c9
  obtain rfl := hv u rfl
  refine g_aload_n hC dL_law_2908 rfl 4 rfl ?_
  refine g_iconst (v := 0) hC dL_law_2909 (by decide) ?_
  refine g_laldE (v := u.toInt64) hC (gE2_b _ _ ho) dL_law_2910 ?_
  refine g_iload hC dL_law_2911 0 rfl ?_
  refine g_i2l hC dL_law_2913 ?_
  refine g_lcmp hC dL_law_2914 ?_
  rw [lg_self]
  exact g_if_eq hC 2920 dL_law_2915 (by decide) (fun _ => KE) (fun c9 => absurd rfl c9)
