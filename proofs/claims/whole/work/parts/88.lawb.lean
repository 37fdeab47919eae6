set_option maxHeartbeats 4000000 in
theorem law_11 {X : FX} {l : Launch} {D : va_G} {cy : Nat → ClassId} {b Ln : Nat} {xs : Nat → Int32} {cells slots h : Nat} {w w2 : FW} {i a1 a2 a3 : Int32} {x m o oD : Nat} {v : Int64} {vD : UInt64} (hC : fOK X cL_law 9 RL room_1 l D cy) (hst : l.stackTraces = false) (hN : gNcX X) (hS : gScr X b Ln xs) (ho : o < oD) (s1 : vp_in (i + 1) Ln) (e1 : xs (i + 1).toNatClampNeg = a1) (s2 : vp_in (i + 2) Ln) (e2 : xs (i + 2).toNatClampNeg = a2) (s3 : vp_in (i + 3) Ln) (e3 : xs (i + 3).toNatClampNeg = a3) (hx : w.1 x = 5) (hm : w.1 m = 6) (hc1 : cells + 3 ≤ 622912) (hc2 : slots + 18 ≤ 7151591) (hK : KK11 x m a1 a2 a3 w w2)
    (k : ∀ (h' : Nat) (v' : Int64) (vD' : UInt64), h ≤ h' → gAt X (cells + 3) (slots + 18) 9 w2 h' (EE cy o oD v' vD') [(5, .int i), (4, .ref oD), (3, .ref o), (2, .ref m), (1, .ref x), (0, .ref b)] [] 2923) : gAt X cells slots 9 w h (EE cy o oD v vD) [(5, .int i), (4, .ref oD), (3, .ref o), (2, .ref m), (1, .ref x), (0, .ref b)] [] 963 := by
  obtain ⟨rx, w1, b9, t, hF1, hF2, hF3, hes, ht, hv⟩ := hK
  refine g_aload_n hC dL_law_963 rfl 4 rfl ?_
  refine g_aload_n hC dL_law_964 rfl 5 rfl ?_
  refine g_iload hC dL_law_965 0 rfl ?_
  refine g_iconst (v := 1) hC dL_law_967 (by decide) ?_
  refine g_iadd hC dL_law_968 ?_
  refine g_sald hC hS s1 e1 dL_law_969 ?_
  refine g_aload_n hC dL_law_970 rfl 2 rfl ?_
  refine g_callW hC hst [.ref x, .int a1, .ref o] hN (c_L_tear l D cy x a1 o w w1 v rx hF1 hx hes) q_841 q_131 q_839 q_840 h9_L_tear ⟨Nat.le_of_ble_eq_true rfl, Nat.le_of_ble_eq_true rfl⟩ ⟨by show _ + 1 ≤ 622912; omega, by show _ + 6 ≤ 7151591; omega⟩ (Nat.le_of_ble_eq_true rfl) (gE2_b _ _ ho) rfl dL_law_971 (fun h1 hh1 hs1 => ?_)
  refine g_cs (cells + 1) (slots + 6) rfl rfl ?_
  refine g_nm h1 (gE2 o (some (.inl (wO rx (arrV (cy 5) 1 (fun _ => .long v)) (fun v => arrV (cy 5) 1 (fun _ => .long v.toInt64))))) oD (some (.inl (arrV (cy 6) 1 (fun _ => .double vD))))) w1 [(5, .int i), (4, .ref oD), (3, .ref o), (2, .ref m), (1, .ref x), (0, .ref b)] rfl (gE2_upb _ _ _ ho).symm rfl rfl ?_
  refine g_istore (L' := [(6, .int (wK [2, 4] rx)), (5, .int i), (4, .ref oD), (3, .ref o), (2, .ref m), (1, .ref x), (0, .ref b)]) hC dL_law_974 (by decide) rfl ?_
  refine g_aload_n hC dL_law_976 rfl 4 rfl ?_
  refine g_aload_n hC dL_law_977 rfl 6 rfl ?_
  refine g_iload hC dL_law_978 1 rfl ?_
  refine g_iconst (v := 1) hC dL_law_980 (by decide) ?_
  refine g_iadd hC dL_law_981 ?_
  refine g_sald hC hS s1 e1 dL_law_982 ?_
  refine g_callV hC (rv := some (.int b9)) [.int a1] (c_X5_tear l D cy m a1 w1 _ hF2) q_1510 q_137 q_1507 q_1508 q_1509 h9_X5_tear (T := TX5) (N := 23) (ci := 5) rfl (fSm.k hs1 hm) ⟨Nat.le_of_ble_eq_true rfl, Nat.le_of_ble_eq_true rfl⟩ ⟨by show _ + 0 ≤ 622912; omega, by show _ + 0 ≤ 7151591; omega⟩ (Nat.le_of_ble_eq_true rfl) rfl dL_law_983 (fun h2 hh2 hs2 => ?_)
  refine g_cs (cells + 1) (slots + 6) rfl rfl ?_
  refine g_istore (L' := [(7, .int b9), (6, .int (wK [2, 4] rx)), (5, .int i), (4, .ref oD), (3, .ref o), (2, .ref m), (1, .ref x), (0, .ref b)]) hC dL_law_986 (by decide) rfl ?_
  refine g_aload_n hC dL_law_988 rfl 5 rfl ?_
  refine g_callV hC (rv := some (.int t)) [] (c_X5_thrown l D cy m w2 _ hF3) q_1332 q_137 q_1329 q_1330 q_1331 h9_X5_thrown (T := TX5) (N := 23) (ci := 5) rfl (fSm.k (fSm.tr hs2 hs1) hm) ⟨Nat.le_of_ble_eq_true rfl, Nat.le_of_ble_eq_true rfl⟩ ⟨by show _ + 0 ≤ 622912; omega, by show _ + 0 ≤ 7151591; omega⟩ (Nat.le_of_ble_eq_true rfl) rfl dL_law_989 (fun h3 hh3 hs3 => ?_)
  refine g_cs (cells + 1) (slots + 6) rfl rfl ?_
  refine g_iload hC dL_law_992 1 rfl ?_
  refine g_icmp_eq hC 999 dL_law_994 (by decide) (fun _ => ?_) (fun c9 => absurd ht c9)
  refine g_iload hC dL_law_999 1 rfl ?_
  have KE : gAt X (cells + 1) (slots + 6) 9 w2 h3 (gE2 o (some (.inl (wO rx (arrV (cy 5) 1 (fun _ => .long v)) (fun v => arrV (cy 5) 1 (fun _ => .long v.toInt64))))) oD (some (.inl (arrV (cy 6) 1 (fun _ => .double vD))))) [(7, .int b9), (6, .int (wK [2, 4] rx)), (5, .int i), (4, .ref oD), (3, .ref o), (2, .ref m), (1, .ref x), (0, .ref b)] [] 1016 := by
    refine g_goto hC 2923 dL_law_1016 (by decide) ?_
    refine g_sub (L' := [(5, .int i), (4, .ref oD), (3, .ref o), (2, .ref m), (1, .ref x), (0, .ref b)]) [2, 3, 4, 5, 6, 7] rfl ?_
    refine g_widen (k' := cells + 3) (s' := slots + 18) (by omega) (by omega) ?_
    cases rx with
    | inl u => exact k _ _ _ (by omega)
    | inr e => exact k _ _ _ (by omega)
  refine g_if_ne hC 1016 dL_law_1001 (by decide) (fun _ => KE) (fun c9 => ?_)
  obtain ⟨u, rfl⟩ := wK_0 (by decide) hes c9
  obtain rfl := hv u rfl
  refine g_aload_n hC dL_law_1004 rfl 4 rfl ?_
  refine g_iconst (v := 0) hC dL_law_1005 (by decide) ?_
  refine g_laldE (v := u.toInt64) hC (gE2_b _ _ ho) dL_law_1006 ?_
  refine g_iload hC dL_law_1007 0 rfl ?_
  refine g_i2l hC dL_law_1009 ?_
  refine g_lcmp hC dL_law_1010 ?_
  rw [lg_self]
  exact g_if_eq hC 1016 dL_law_1011 (by decide) (fun _ => KE) (fun c9 => absurd rfl c9)
set_option maxHeartbeats 4000000 in
theorem law_12 {X : FX} {l : Launch} {D : va_G} {cy : Nat → ClassId} {b Ln : Nat} {xs : Nat → Int32} {cells slots h : Nat} {w w2 : FW} {i a1 a2 a3 : Int32} {x m o oD : Nat} {v : Int64} {vD : UInt64} (hC : fOK X cL_law 9 RL room_1 l D cy) (hst : l.stackTraces = false) (hN : gNcX X) (hS : gScr X b Ln xs) (ho : o < oD) (s1 : vp_in (i + 1) Ln) (e1 : xs (i + 1).toNatClampNeg = a1) (s2 : vp_in (i + 2) Ln) (e2 : xs (i + 2).toNatClampNeg = a2) (s3 : vp_in (i + 3) Ln) (e3 : xs (i + 3).toNatClampNeg = a3) (hx : w.1 x = 5) (hm : w.1 m = 6) (hc1 : cells + 3 ≤ 622912) (hc2 : slots + 18 ≤ 7151591) (hK : KK12 x m a1 a2 a3 w w2)
    (k : ∀ (h' : Nat) (v' : Int64) (vD' : UInt64), h ≤ h' → gAt X (cells + 3) (slots + 18) 9 w2 h' (EE cy o oD v' vD') [(5, .int i), (4, .ref oD), (3, .ref o), (2, .ref m), (1, .ref x), (0, .ref b)] [] 2923) : gAt X cells slots 9 w h (EE cy o oD v vD) [(5, .int i), (4, .ref oD), (3, .ref o), (2, .ref m), (1, .ref x), (0, .ref b)] [] 1019 := by
  obtain ⟨rx, w1, b9, t, hF1, hF2, hF3, hes, ht, hv⟩ := hK
  refine g_aload_n hC dL_law_1019 rfl 4 rfl ?_
  refine g_aload_n hC dL_law_1020 rfl 5 rfl ?_
  refine g_iload hC dL_law_1021 0 rfl ?_
  refine g_iconst (v := 1) hC dL_law_1023 (by decide) ?_
  refine g_iadd hC dL_law_1024 ?_
  refine g_sald hC hS s1 e1 dL_law_1025 ?_
  refine g_aload_n hC dL_law_1026 rfl 5 rfl ?_
  refine g_iload hC dL_law_1027 0 rfl ?_
  refine g_iconst (v := 2) hC dL_law_1029 (by decide) ?_
  refine g_iadd hC dL_law_1030 ?_
  refine g_sald hC hS s2 e2 dL_law_1031 ?_
  have KM1 : gAt X cells slots 9 w h (EE cy o oD v vD) [(5, .int i), (4, .ref oD), (3, .ref o), (2, .ref m), (1, .ref x), (0, .ref b)] [.int (zz a2), .int a1, .ref x] 1040 := by
    refine g_aload_n hC dL_law_1040 rfl 2 rfl ?_
    refine g_callW hC hst [.ref x, .int a1, .int (zz a2), .ref o] hN (c_L_lose l D cy x a1 (zz a2) o w w1 v rx hF1 hx hes) q_856 q_131 q_854 q_855 h9_L_lose ⟨Nat.le_of_ble_eq_true rfl, Nat.le_of_ble_eq_true rfl⟩ ⟨by show _ + 1 ≤ 622912; omega, by show _ + 6 ≤ 7151591; omega⟩ (Nat.le_of_ble_eq_true rfl) (gE2_b _ _ ho) rfl dL_law_1041 (fun h1 hh1 hs1 => ?_)
    refine g_cs (cells + 1) (slots + 6) rfl rfl ?_
    refine g_nm h1 (gE2 o (some (.inl (wO rx (arrV (cy 5) 1 (fun _ => .long v)) (fun v => arrV (cy 5) 1 (fun _ => .long v.toInt64))))) oD (some (.inl (arrV (cy 6) 1 (fun _ => .double vD))))) w1 [(5, .int i), (4, .ref oD), (3, .ref o), (2, .ref m), (1, .ref x), (0, .ref b)] rfl (gE2_upb _ _ _ ho).symm rfl rfl ?_
    refine g_istore (L' := [(6, .int (wK [2, 4] rx)), (5, .int i), (4, .ref oD), (3, .ref o), (2, .ref m), (1, .ref x), (0, .ref b)]) hC dL_law_1044 (by decide) rfl ?_
    refine g_aload_n hC dL_law_1046 rfl 4 rfl ?_
    refine g_aload_n hC dL_law_1047 rfl 6 rfl ?_
    refine g_iload hC dL_law_1048 1 rfl ?_
    refine g_iconst (v := 1) hC dL_law_1050 (by decide) ?_
    refine g_iadd hC dL_law_1051 ?_
    refine g_sald hC hS s1 e1 dL_law_1052 ?_
    refine g_aload_n hC dL_law_1053 rfl 6 rfl ?_
    refine g_iload hC dL_law_1054 1 rfl ?_
    refine g_iconst (v := 2) hC dL_law_1056 (by decide) ?_
    refine g_iadd hC dL_law_1057 ?_
    refine g_sald hC hS s2 e2 dL_law_1058 ?_
    have KM2 : gAt X (cells + 1) (slots + 6) 9 w1 h1 (gE2 o (some (.inl (wO rx (arrV (cy 5) 1 (fun _ => .long v)) (fun v => arrV (cy 5) 1 (fun _ => .long v.toInt64))))) oD (some (.inl (arrV (cy 6) 1 (fun _ => .double vD))))) [(6, .int (wK [2, 4] rx)), (5, .int i), (4, .ref oD), (3, .ref o), (2, .ref m), (1, .ref x), (0, .ref b)] [.int (zz a2), .int a1, .ref m] 1067 := by
      refine g_callV hC (rv := some (.int b9)) [.int a1, .int (zz a2)] (c_X5_lose l D cy m a1 (zz a2) w1 _ hF2) q_1522 q_137 q_1519 q_1520 q_1521 h9_X5_lose (T := TX5) (N := 23) (ci := 5) rfl (fSm.k hs1 hm) ⟨Nat.le_of_ble_eq_true rfl, Nat.le_of_ble_eq_true rfl⟩ ⟨by show _ + 0 ≤ 622912; omega, by show _ + 0 ≤ 7151591; omega⟩ (Nat.le_of_ble_eq_true rfl) rfl dL_law_1067 (fun h2 hh2 hs2 => ?_)
      refine g_cs (cells + 1) (slots + 6) rfl rfl ?_
      refine g_istore (L' := [(7, .int b9), (6, .int (wK [2, 4] rx)), (5, .int i), (4, .ref oD), (3, .ref o), (2, .ref m), (1, .ref x), (0, .ref b)]) hC dL_law_1070 (by decide) rfl ?_
      refine g_aload_n hC dL_law_1072 rfl 5 rfl ?_
      refine g_callV hC (rv := some (.int t)) [] (c_X5_thrown l D cy m w2 _ hF3) q_1332 q_137 q_1329 q_1330 q_1331 h9_X5_thrown (T := TX5) (N := 23) (ci := 5) rfl (fSm.k (fSm.tr hs2 hs1) hm) ⟨Nat.le_of_ble_eq_true rfl, Nat.le_of_ble_eq_true rfl⟩ ⟨by show _ + 0 ≤ 622912; omega, by show _ + 0 ≤ 7151591; omega⟩ (Nat.le_of_ble_eq_true rfl) rfl dL_law_1073 (fun h3 hh3 hs3 => ?_)
      refine g_cs (cells + 1) (slots + 6) rfl rfl ?_
      refine g_iload hC dL_law_1076 1 rfl ?_
      refine g_icmp_eq hC 1083 dL_law_1078 (by decide) (fun _ => ?_) (fun c9 => absurd ht c9)
      refine g_iload hC dL_law_1083 1 rfl ?_
      have KE : gAt X (cells + 1) (slots + 6) 9 w2 h3 (gE2 o (some (.inl (wO rx (arrV (cy 5) 1 (fun _ => .long v)) (fun v => arrV (cy 5) 1 (fun _ => .long v.toInt64))))) oD (some (.inl (arrV (cy 6) 1 (fun _ => .double vD))))) [(7, .int b9), (6, .int (wK [2, 4] rx)), (5, .int i), (4, .ref oD), (3, .ref o), (2, .ref m), (1, .ref x), (0, .ref b)] [] 1100 := by
        refine g_goto hC 2923 dL_law_1100 (by decide) ?_
        refine g_sub (L' := [(5, .int i), (4, .ref oD), (3, .ref o), (2, .ref m), (1, .ref x), (0, .ref b)]) [2, 3, 4, 5, 6, 7] rfl ?_
        refine g_widen (k' := cells + 3) (s' := slots + 18) (by omega) (by omega) ?_
        cases rx with
        | inl u => exact k _ _ _ (by omega)
        | inr e => exact k _ _ _ (by omega)
      refine g_if_ne hC 1100 dL_law_1085 (by decide) (fun _ => KE) (fun c9 => ?_)
      obtain ⟨u, rfl⟩ := wK_0 (by decide) hes c9
      obtain rfl := hv u rfl
      refine g_aload_n hC dL_law_1088 rfl 4 rfl ?_
      refine g_iconst (v := 0) hC dL_law_1089 (by decide) ?_
      refine g_laldE (v := u.toInt64) hC (gE2_b _ _ ho) dL_law_1090 ?_
      refine g_iload hC dL_law_1091 0 rfl ?_
      refine g_i2l hC dL_law_1093 ?_
      refine g_lcmp hC dL_law_1094 ?_
      rw [lg_self]
      exact g_if_eq hC 1100 dL_law_1095 (by decide) (fun _ => KE) (fun c9 => absurd rfl c9)
    refine g_if_eq hC 1066 dL_law_1059 (by decide) (fun c9 => ?_) (fun c9 => ?_)
    · have e9 : zz a2 = 0 := if_pos c9
      rw [e9] at KM2
      exact g_iconst (v := 0) hC dL_law_1066 (by decide) KM2
    · have e9 : zz a2 = 1 := if_neg c9
      rw [e9] at KM2
      exact g_iconst (v := 1) hC dL_law_1062 (by decide) (g_goto hC 1067 dL_law_1063 (by decide) KM2)
  refine g_if_eq hC 1039 dL_law_1032 (by decide) (fun c9 => ?_) (fun c9 => ?_)
  · have e9 : zz a2 = 0 := if_pos c9
    rw [e9] at KM1
    exact g_iconst (v := 0) hC dL_law_1039 (by decide) KM1
  · have e9 : zz a2 = 1 := if_neg c9
    rw [e9] at KM1
    exact g_iconst (v := 1) hC dL_law_1035 (by decide) (g_goto hC 1040 dL_law_1036 (by decide) KM1)
set_option maxHeartbeats 4000000 in
theorem law_13 {X : FX} {l : Launch} {D : va_G} {cy : Nat → ClassId} {b Ln : Nat} {xs : Nat → Int32} {cells slots h : Nat} {w w2 : FW} {i a1 a2 a3 : Int32} {x m o oD : Nat} {v : Int64} {vD : UInt64} (hC : fOK X cL_law 9 RL room_1 l D cy) (hst : l.stackTraces = false) (hN : gNcX X) (hS : gScr X b Ln xs) (ho : o < oD) (s1 : vp_in (i + 1) Ln) (e1 : xs (i + 1).toNatClampNeg = a1) (s2 : vp_in (i + 2) Ln) (e2 : xs (i + 2).toNatClampNeg = a2) (s3 : vp_in (i + 3) Ln) (e3 : xs (i + 3).toNatClampNeg = a3) (hx : w.1 x = 5) (hm : w.1 m = 6) (hc1 : cells + 3 ≤ 622912) (hc2 : slots + 18 ≤ 7151591) (hK : KK13 x m a1 a2 a3 w w2)
    (k : ∀ (h' : Nat) (v' : Int64) (vD' : UInt64), h ≤ h' → gAt X (cells + 3) (slots + 18) 9 w2 h' (EE cy o oD v' vD') [(5, .int i), (4, .ref oD), (3, .ref o), (2, .ref m), (1, .ref x), (0, .ref b)] [] 2923) : gAt X cells slots 9 w h (EE cy o oD v vD) [(5, .int i), (4, .ref oD), (3, .ref o), (2, .ref m), (1, .ref x), (0, .ref b)] [] 1103 := by
  obtain ⟨rx, w1, b9, t, hF1, hF2, hF3, hes, ht, hv⟩ := hK
  refine g_aload_n hC dL_law_1103 rfl 4 rfl ?_
  refine g_aload_n hC dL_law_1104 rfl 5 rfl ?_
  refine g_iload hC dL_law_1105 0 rfl ?_
  refine g_iconst (v := 1) hC dL_law_1107 (by decide) ?_
  refine g_iadd hC dL_law_1108 ?_
  refine g_sald hC hS s1 e1 dL_law_1109 ?_
  refine g_aload_n hC dL_law_1110 rfl 5 rfl ?_
  refine g_iload hC dL_law_1111 0 rfl ?_
  refine g_iconst (v := 2) hC dL_law_1113 (by decide) ?_
  refine g_iadd hC dL_law_1114 ?_
  refine g_sald hC hS s2 e2 dL_law_1115 ?_
  have KM1 : gAt X cells slots 9 w h (EE cy o oD v vD) [(5, .int i), (4, .ref oD), (3, .ref o), (2, .ref m), (1, .ref x), (0, .ref b)] [.int (zz a2), .int a1, .ref x] 1124 := by
    refine g_aload_n hC dL_law_1124 rfl 2 rfl ?_
    refine g_callW hC hst [.ref x, .int a1, .int (zz a2), .ref o] hN (c_L_find l D cy x a1 (zz a2) o w w1 v rx hF1 hx hes) q_871 q_131 q_869 q_870 h9_L_find ⟨Nat.le_of_ble_eq_true rfl, Nat.le_of_ble_eq_true rfl⟩ ⟨by show _ + 1 ≤ 622912; omega, by show _ + 6 ≤ 7151591; omega⟩ (Nat.le_of_ble_eq_true rfl) (gE2_b _ _ ho) rfl dL_law_1125 (fun h1 hh1 hs1 => ?_)
    refine g_cs (cells + 1) (slots + 6) rfl rfl ?_
    refine g_nm h1 (gE2 o (some (.inl (wO rx (arrV (cy 5) 1 (fun _ => .long v)) (fun v => arrV (cy 5) 1 (fun _ => .long v.toInt64))))) oD (some (.inl (arrV (cy 6) 1 (fun _ => .double vD))))) w1 [(5, .int i), (4, .ref oD), (3, .ref o), (2, .ref m), (1, .ref x), (0, .ref b)] rfl (gE2_upb _ _ _ ho).symm rfl rfl ?_
    refine g_istore (L' := [(6, .int (wK [2, 4] rx)), (5, .int i), (4, .ref oD), (3, .ref o), (2, .ref m), (1, .ref x), (0, .ref b)]) hC dL_law_1128 (by decide) rfl ?_
    refine g_aload_n hC dL_law_1130 rfl 4 rfl ?_
    refine g_aload_n hC dL_law_1131 rfl 6 rfl ?_
    refine g_iload hC dL_law_1132 1 rfl ?_
    refine g_iconst (v := 1) hC dL_law_1134 (by decide) ?_
    refine g_iadd hC dL_law_1135 ?_
    refine g_sald hC hS s1 e1 dL_law_1136 ?_
    refine g_aload_n hC dL_law_1137 rfl 6 rfl ?_
    refine g_iload hC dL_law_1138 1 rfl ?_
    refine g_iconst (v := 2) hC dL_law_1140 (by decide) ?_
    refine g_iadd hC dL_law_1141 ?_
    refine g_sald hC hS s2 e2 dL_law_1142 ?_
    have KM2 : gAt X (cells + 1) (slots + 6) 9 w1 h1 (gE2 o (some (.inl (wO rx (arrV (cy 5) 1 (fun _ => .long v)) (fun v => arrV (cy 5) 1 (fun _ => .long v.toInt64))))) oD (some (.inl (arrV (cy 6) 1 (fun _ => .double vD))))) [(6, .int (wK [2, 4] rx)), (5, .int i), (4, .ref oD), (3, .ref o), (2, .ref m), (1, .ref x), (0, .ref b)] [.int (zz a2), .int a1, .ref m] 1151 := by
      refine g_callV hC (rv := some (.int b9)) [.int a1, .int (zz a2)] (c_X5_find l D cy m a1 (zz a2) w1 _ hF2) q_1534 q_137 q_1531 q_1532 q_1533 h9_X5_find (T := TX5) (N := 23) (ci := 5) rfl (fSm.k hs1 hm) ⟨Nat.le_of_ble_eq_true rfl, Nat.le_of_ble_eq_true rfl⟩ ⟨by show _ + 0 ≤ 622912; omega, by show _ + 0 ≤ 7151591; omega⟩ (Nat.le_of_ble_eq_true rfl) rfl dL_law_1151 (fun h2 hh2 hs2 => ?_)
      refine g_cs (cells + 1) (slots + 6) rfl rfl ?_
      refine g_istore (L' := [(7, .int b9), (6, .int (wK [2, 4] rx)), (5, .int i), (4, .ref oD), (3, .ref o), (2, .ref m), (1, .ref x), (0, .ref b)]) hC dL_law_1154 (by decide) rfl ?_
      refine g_aload_n hC dL_law_1156 rfl 5 rfl ?_
      refine g_callV hC (rv := some (.int t)) [] (c_X5_thrown l D cy m w2 _ hF3) q_1332 q_137 q_1329 q_1330 q_1331 h9_X5_thrown (T := TX5) (N := 23) (ci := 5) rfl (fSm.k (fSm.tr hs2 hs1) hm) ⟨Nat.le_of_ble_eq_true rfl, Nat.le_of_ble_eq_true rfl⟩ ⟨by show _ + 0 ≤ 622912; omega, by show _ + 0 ≤ 7151591; omega⟩ (Nat.le_of_ble_eq_true rfl) rfl dL_law_1157 (fun h3 hh3 hs3 => ?_)
      refine g_cs (cells + 1) (slots + 6) rfl rfl ?_
      refine g_iload hC dL_law_1160 1 rfl ?_
      refine g_icmp_eq hC 1167 dL_law_1162 (by decide) (fun _ => ?_) (fun c9 => absurd ht c9)
      refine g_iload hC dL_law_1167 1 rfl ?_
      have KE : gAt X (cells + 1) (slots + 6) 9 w2 h3 (gE2 o (some (.inl (wO rx (arrV (cy 5) 1 (fun _ => .long v)) (fun v => arrV (cy 5) 1 (fun _ => .long v.toInt64))))) oD (some (.inl (arrV (cy 6) 1 (fun _ => .double vD))))) [(7, .int b9), (6, .int (wK [2, 4] rx)), (5, .int i), (4, .ref oD), (3, .ref o), (2, .ref m), (1, .ref x), (0, .ref b)] [] 1184 := by
        refine g_goto hC 2923 dL_law_1184 (by decide) ?_
        refine g_sub (L' := [(5, .int i), (4, .ref oD), (3, .ref o), (2, .ref m), (1, .ref x), (0, .ref b)]) [2, 3, 4, 5, 6, 7] rfl ?_
        refine g_widen (k' := cells + 3) (s' := slots + 18) (by omega) (by omega) ?_
        cases rx with
        | inl u => exact k _ _ _ (by omega)
        | inr e => exact k _ _ _ (by omega)
      refine g_if_ne hC 1184 dL_law_1169 (by decide) (fun _ => KE) (fun c9 => ?_)
      obtain ⟨u, rfl⟩ := wK_0 (by decide) hes c9
      obtain rfl := hv u rfl
      refine g_aload_n hC dL_law_1172 rfl 4 rfl ?_
      refine g_iconst (v := 0) hC dL_law_1173 (by decide) ?_
      refine g_laldE (v := u.toInt64) hC (gE2_b _ _ ho) dL_law_1174 ?_
      refine g_iload hC dL_law_1175 0 rfl ?_
      refine g_i2l hC dL_law_1177 ?_
      refine g_lcmp hC dL_law_1178 ?_
      rw [lg_self]
      exact g_if_eq hC 1184 dL_law_1179 (by decide) (fun _ => KE) (fun c9 => absurd rfl c9)
    refine g_if_eq hC 1150 dL_law_1143 (by decide) (fun c9 => ?_) (fun c9 => ?_)
    · have e9 : zz a2 = 0 := if_pos c9
      rw [e9] at KM2
      exact g_iconst (v := 0) hC dL_law_1150 (by decide) KM2
    · have e9 : zz a2 = 1 := if_neg c9
      rw [e9] at KM2
      exact g_iconst (v := 1) hC dL_law_1146 (by decide) (g_goto hC 1151 dL_law_1147 (by decide) KM2)
  refine g_if_eq hC 1123 dL_law_1116 (by decide) (fun c9 => ?_) (fun c9 => ?_)
  · have e9 : zz a2 = 0 := if_pos c9
    rw [e9] at KM1
    exact g_iconst (v := 0) hC dL_law_1123 (by decide) KM1
  · have e9 : zz a2 = 1 := if_neg c9
    rw [e9] at KM1
    exact g_iconst (v := 1) hC dL_law_1119 (by decide) (g_goto hC 1124 dL_law_1120 (by decide) KM1)
set_option maxHeartbeats 4000000 in
theorem law_14 {X : FX} {l : Launch} {D : va_G} {cy : Nat → ClassId} {b Ln : Nat} {xs : Nat → Int32} {cells slots h : Nat} {w w2 : FW} {i a1 a2 a3 : Int32} {x m o oD : Nat} {v : Int64} {vD : UInt64} (hC : fOK X cL_law 9 RL room_1 l D cy) (hst : l.stackTraces = false) (hN : gNcX X) (hS : gScr X b Ln xs) (ho : o < oD) (s1 : vp_in (i + 1) Ln) (e1 : xs (i + 1).toNatClampNeg = a1) (s2 : vp_in (i + 2) Ln) (e2 : xs (i + 2).toNatClampNeg = a2) (s3 : vp_in (i + 3) Ln) (e3 : xs (i + 3).toNatClampNeg = a3) (hx : w.1 x = 5) (hm : w.1 m = 6) (hc1 : cells + 3 ≤ 622912) (hc2 : slots + 18 ≤ 7151591) (hK : KK14 x m a1 a2 a3 w w2)
    (k : ∀ (h' : Nat) (v' : Int64) (vD' : UInt64), h ≤ h' → gAt X (cells + 3) (slots + 18) 9 w2 h' (EE cy o oD v' vD') [(5, .int i), (4, .ref oD), (3, .ref o), (2, .ref m), (1, .ref x), (0, .ref b)] [] 2923) : gAt X cells slots 9 w h (EE cy o oD v vD) [(5, .int i), (4, .ref oD), (3, .ref o), (2, .ref m), (1, .ref x), (0, .ref b)] [] 1187 := by
  obtain ⟨rx, b9, t, hF1, hF2, hF3, hes, ht, hv⟩ := hK
  refine g_aload_n hC dL_law_1187 rfl 4 rfl ?_
  refine g_aload_n hC dL_law_1188 rfl 5 rfl ?_
  refine g_iload hC dL_law_1189 0 rfl ?_
  refine g_iconst (v := 1) hC dL_law_1191 (by decide) ?_
  refine g_iadd hC dL_law_1192 ?_
  refine g_sald hC hS s1 e1 dL_law_1193 ?_
  refine g_aload_n hC dL_law_1194 rfl 5 rfl ?_
  refine g_iload hC dL_law_1195 0 rfl ?_
  refine g_iconst (v := 2) hC dL_law_1197 (by decide) ?_
  refine g_iadd hC dL_law_1198 ?_
  refine g_sald hC hS s2 e2 dL_law_1199 ?_
  have KM1 : gAt X cells slots 9 w h (EE cy o oD v vD) [(5, .int i), (4, .ref oD), (3, .ref o), (2, .ref m), (1, .ref x), (0, .ref b)] [.int (zz a2), .int a1, .ref x] 1208 := by
    refine g_aload_n hC dL_law_1208 rfl 5 rfl ?_
    refine g_iload hC dL_law_1209 0 rfl ?_
    refine g_iconst (v := 3) hC dL_law_1211 (by decide) ?_
    refine g_iadd hC dL_law_1212 ?_
    refine g_sald hC hS s3 e3 dL_law_1213 ?_
    refine g_aload_n hC dL_law_1214 rfl 2 rfl ?_
    refine g_callW hC hst [.ref x, .int a1, .int (zz a2), .int a3, .ref o] hN (c_L_halfOf l D cy x a1 (zz a2) a3 o w v rx hF1 hx hes) q_878 q_131 q_876 q_877 h9_L_halfOf ⟨Nat.le_of_ble_eq_true rfl, Nat.le_of_ble_eq_true rfl⟩ ⟨by show _ + 2 ≤ 622912; omega, by show _ + 12 ≤ 7151591; omega⟩ (Nat.le_of_ble_eq_true rfl) (gE2_b _ _ ho) rfl dL_law_1215 (fun h1 hh1 hs1 => ?_)
    refine g_cs (cells + 2) (slots + 12) rfl rfl ?_
    refine g_nm h1 (gE2 o (some (.inl (wO rx (arrV (cy 5) 1 (fun _ => .long v)) (fun v => arrV (cy 5) 1 (fun _ => .long v.toInt64))))) oD (some (.inl (arrV (cy 6) 1 (fun _ => .double vD))))) w [(5, .int i), (4, .ref oD), (3, .ref o), (2, .ref m), (1, .ref x), (0, .ref b)] rfl (gE2_upb _ _ _ ho).symm rfl rfl ?_
    refine g_istore (L' := [(6, .int (wK [2, 1] rx)), (5, .int i), (4, .ref oD), (3, .ref o), (2, .ref m), (1, .ref x), (0, .ref b)]) hC dL_law_1218 (by decide) rfl ?_
    refine g_aload_n hC dL_law_1220 rfl 4 rfl ?_
    refine g_aload_n hC dL_law_1221 rfl 6 rfl ?_
    refine g_iload hC dL_law_1222 1 rfl ?_
    refine g_iconst (v := 1) hC dL_law_1224 (by decide) ?_
    refine g_iadd hC dL_law_1225 ?_
    refine g_sald hC hS s1 e1 dL_law_1226 ?_
    refine g_aload_n hC dL_law_1227 rfl 6 rfl ?_
    refine g_iload hC dL_law_1228 1 rfl ?_
    refine g_iconst (v := 2) hC dL_law_1230 (by decide) ?_
    refine g_iadd hC dL_law_1231 ?_
    refine g_sald hC hS s2 e2 dL_law_1232 ?_
    have KM2 : gAt X (cells + 2) (slots + 12) 9 w h1 (gE2 o (some (.inl (wO rx (arrV (cy 5) 1 (fun _ => .long v)) (fun v => arrV (cy 5) 1 (fun _ => .long v.toInt64))))) oD (some (.inl (arrV (cy 6) 1 (fun _ => .double vD))))) [(6, .int (wK [2, 1] rx)), (5, .int i), (4, .ref oD), (3, .ref o), (2, .ref m), (1, .ref x), (0, .ref b)] [.int (zz a2), .int a1, .ref m] 1241 := by
      refine g_aload_n hC dL_law_1241 rfl 6 rfl ?_
      refine g_iload hC dL_law_1242 1 rfl ?_
      refine g_iconst (v := 3) hC dL_law_1244 (by decide) ?_
      refine g_iadd hC dL_law_1245 ?_
      refine g_sald hC hS s3 e3 dL_law_1246 ?_
      refine g_callV hC (rv := some (.int b9)) [.int a1, .int (zz a2), .int a3] (c_X5_halfOf l D cy m a1 (zz a2) a3 w _ hF2) q_1538 q_137 q_1535 q_1536 q_1537 h9_X5_halfOf (T := TX5) (N := 23) (ci := 5) rfl (fSm.k hs1 hm) ⟨Nat.le_of_ble_eq_true rfl, Nat.le_of_ble_eq_true rfl⟩ ⟨by show _ + 0 ≤ 622912; omega, by show _ + 0 ≤ 7151591; omega⟩ (Nat.le_of_ble_eq_true rfl) rfl dL_law_1247 (fun h2 hh2 hs2 => ?_)
      refine g_cs (cells + 2) (slots + 12) rfl rfl ?_
      refine g_istore (L' := [(7, .int b9), (6, .int (wK [2, 1] rx)), (5, .int i), (4, .ref oD), (3, .ref o), (2, .ref m), (1, .ref x), (0, .ref b)]) hC dL_law_1250 (by decide) rfl ?_
      refine g_aload_n hC dL_law_1252 rfl 5 rfl ?_
      refine g_callV hC (rv := some (.int t)) [] (c_X5_thrown l D cy m w2 _ hF3) q_1332 q_137 q_1329 q_1330 q_1331 h9_X5_thrown (T := TX5) (N := 23) (ci := 5) rfl (fSm.k (fSm.tr hs2 hs1) hm) ⟨Nat.le_of_ble_eq_true rfl, Nat.le_of_ble_eq_true rfl⟩ ⟨by show _ + 0 ≤ 622912; omega, by show _ + 0 ≤ 7151591; omega⟩ (Nat.le_of_ble_eq_true rfl) rfl dL_law_1253 (fun h3 hh3 hs3 => ?_)
      refine g_cs (cells + 2) (slots + 12) rfl rfl ?_
      refine g_iload hC dL_law_1256 1 rfl ?_
      refine g_icmp_eq hC 1263 dL_law_1258 (by decide) (fun _ => ?_) (fun c9 => absurd ht c9)
      refine g_iload hC dL_law_1263 1 rfl ?_
      have KE : gAt X (cells + 2) (slots + 12) 9 w2 h3 (gE2 o (some (.inl (wO rx (arrV (cy 5) 1 (fun _ => .long v)) (fun v => arrV (cy 5) 1 (fun _ => .long v.toInt64))))) oD (some (.inl (arrV (cy 6) 1 (fun _ => .double vD))))) [(7, .int b9), (6, .int (wK [2, 1] rx)), (5, .int i), (4, .ref oD), (3, .ref o), (2, .ref m), (1, .ref x), (0, .ref b)] [] 1280 := by
        refine g_goto hC 2923 dL_law_1280 (by decide) ?_
        refine g_sub (L' := [(5, .int i), (4, .ref oD), (3, .ref o), (2, .ref m), (1, .ref x), (0, .ref b)]) [2, 3, 4, 5, 6, 7] rfl ?_
        refine g_widen (k' := cells + 3) (s' := slots + 18) (by omega) (by omega) ?_
        cases rx with
        | inl u => exact k _ _ _ (by omega)
        | inr e => exact k _ _ _ (by omega)
      refine g_if_ne hC 1280 dL_law_1265 (by decide) (fun _ => KE) (fun c9 => ?_)
      obtain ⟨u, rfl⟩ := wK_0 (by decide) hes c9
      obtain rfl := hv u rfl
      refine g_aload_n hC dL_law_1268 rfl 4 rfl ?_
      refine g_iconst (v := 0) hC dL_law_1269 (by decide) ?_
      refine g_laldE (v := u.toInt64) hC (gE2_b _ _ ho) dL_law_1270 ?_
      refine g_iload hC dL_law_1271 0 rfl ?_
      refine g_i2l hC dL_law_1273 ?_
      refine g_lcmp hC dL_law_1274 ?_
      rw [lg_self]
      exact g_if_eq hC 1280 dL_law_1275 (by decide) (fun _ => KE) (fun c9 => absurd rfl c9)
    refine g_if_eq hC 1240 dL_law_1233 (by decide) (fun c9 => ?_) (fun c9 => ?_)
    · have e9 : zz a2 = 0 := if_pos c9
      rw [e9] at KM2
      exact g_iconst (v := 0) hC dL_law_1240 (by decide) KM2
    · have e9 : zz a2 = 1 := if_neg c9
      rw [e9] at KM2
      exact g_iconst (v := 1) hC dL_law_1236 (by decide) (g_goto hC 1241 dL_law_1237 (by decide) KM2)
  refine g_if_eq hC 1207 dL_law_1200 (by decide) (fun c9 => ?_) (fun c9 => ?_)
  · have e9 : zz a2 = 0 := if_pos c9
    rw [e9] at KM1
    exact g_iconst (v := 0) hC dL_law_1207 (by decide) KM1
  · have e9 : zz a2 = 1 := if_neg c9
    rw [e9] at KM1
    exact g_iconst (v := 1) hC dL_law_1203 (by decide) (g_goto hC 1208 dL_law_1204 (by decide) KM1)
set_option maxHeartbeats 4000000 in
theorem law_15 {X : FX} {l : Launch} {D : va_G} {cy : Nat → ClassId} {b Ln : Nat} {xs : Nat → Int32} {cells slots h : Nat} {w w2 : FW} {i a1 a2 a3 : Int32} {x m o oD : Nat} {v : Int64} {vD : UInt64} (hC : fOK X cL_law 9 RL room_1 l D cy) (hst : l.stackTraces = false) (hN : gNcX X) (hS : gScr X b Ln xs) (ho : o < oD) (s1 : vp_in (i + 1) Ln) (e1 : xs (i + 1).toNatClampNeg = a1) (s2 : vp_in (i + 2) Ln) (e2 : xs (i + 2).toNatClampNeg = a2) (s3 : vp_in (i + 3) Ln) (e3 : xs (i + 3).toNatClampNeg = a3) (hx : w.1 x = 5) (hm : w.1 m = 6) (hc1 : cells + 3 ≤ 622912) (hc2 : slots + 18 ≤ 7151591) (hK : KK15 x m a1 a2 a3 w w2)
    (k : ∀ (h' : Nat) (v' : Int64) (vD' : UInt64), h ≤ h' → gAt X (cells + 3) (slots + 18) 9 w2 h' (EE cy o oD v' vD') [(5, .int i), (4, .ref oD), (3, .ref o), (2, .ref m), (1, .ref x), (0, .ref b)] [] 2923) : gAt X cells slots 9 w h (EE cy o oD v vD) [(5, .int i), (4, .ref oD), (3, .ref o), (2, .ref m), (1, .ref x), (0, .ref b)] [] 1283 := by
  obtain ⟨rx, b9, t, hF1, hF2, hF3, hes, ht, hv⟩ := hK
  refine g_aload_n hC dL_law_1283 rfl 4 rfl ?_
  refine g_aload_n hC dL_law_1284 rfl 5 rfl ?_
  refine g_iload hC dL_law_1285 0 rfl ?_
  refine g_iconst (v := 1) hC dL_law_1287 (by decide) ?_
  refine g_iadd hC dL_law_1288 ?_
  refine g_sald hC hS s1 e1 dL_law_1289 ?_
  refine g_aload_n hC dL_law_1290 rfl 5 rfl ?_
  refine g_iload hC dL_law_1291 0 rfl ?_
  refine g_iconst (v := 2) hC dL_law_1293 (by decide) ?_
  refine g_iadd hC dL_law_1294 ?_
  refine g_sald hC hS s2 e2 dL_law_1295 ?_
  have KM1 : gAt X cells slots 9 w h (EE cy o oD v vD) [(5, .int i), (4, .ref oD), (3, .ref o), (2, .ref m), (1, .ref x), (0, .ref b)] [.int (zz a2), .int a1, .ref x] 1304 := by
    refine g_aload_n hC dL_law_1304 rfl 5 rfl ?_
    refine g_iload hC dL_law_1305 0 rfl ?_
    refine g_iconst (v := 3) hC dL_law_1307 (by decide) ?_
    refine g_iadd hC dL_law_1308 ?_
    refine g_sald hC hS s3 e3 dL_law_1309 ?_
    refine g_aload_n hC dL_law_1310 rfl 2 rfl ?_
    refine g_callW hC hst [.ref x, .int a1, .int (zz a2), .int a3, .ref o] hN (c_L_readAt l D cy x a1 (zz a2) a3 o w v rx hF1 hx hes) q_890 q_131 q_888 q_889 h9_L_readAt ⟨Nat.le_of_ble_eq_true rfl, Nat.le_of_ble_eq_true rfl⟩ ⟨by show _ + 3 ≤ 622912; omega, by show _ + 18 ≤ 7151591; omega⟩ (Nat.le_of_ble_eq_true rfl) (gE2_b _ _ ho) rfl dL_law_1311 (fun h1 hh1 hs1 => ?_)
    refine g_cs (cells + 3) (slots + 18) rfl rfl ?_
    refine g_nm h1 (gE2 o (some (.inl (wO rx (arrV (cy 5) 1 (fun _ => .long v)) (fun v => arrV (cy 5) 1 (fun _ => .long v.toInt64))))) oD (some (.inl (arrV (cy 6) 1 (fun _ => .double vD))))) w [(5, .int i), (4, .ref oD), (3, .ref o), (2, .ref m), (1, .ref x), (0, .ref b)] rfl (gE2_upb _ _ _ ho).symm rfl rfl ?_
    refine g_istore (L' := [(6, .int (wK [2, 5] rx)), (5, .int i), (4, .ref oD), (3, .ref o), (2, .ref m), (1, .ref x), (0, .ref b)]) hC dL_law_1314 (by decide) rfl ?_
    refine g_aload_n hC dL_law_1316 rfl 4 rfl ?_
    refine g_aload_n hC dL_law_1317 rfl 6 rfl ?_
    refine g_iload hC dL_law_1318 1 rfl ?_
    refine g_iconst (v := 1) hC dL_law_1320 (by decide) ?_
    refine g_iadd hC dL_law_1321 ?_
    refine g_sald hC hS s1 e1 dL_law_1322 ?_
    refine g_aload_n hC dL_law_1323 rfl 6 rfl ?_
    refine g_iload hC dL_law_1324 1 rfl ?_
    refine g_iconst (v := 2) hC dL_law_1326 (by decide) ?_
    refine g_iadd hC dL_law_1327 ?_
    refine g_sald hC hS s2 e2 dL_law_1328 ?_
    have KM2 : gAt X (cells + 3) (slots + 18) 9 w h1 (gE2 o (some (.inl (wO rx (arrV (cy 5) 1 (fun _ => .long v)) (fun v => arrV (cy 5) 1 (fun _ => .long v.toInt64))))) oD (some (.inl (arrV (cy 6) 1 (fun _ => .double vD))))) [(6, .int (wK [2, 5] rx)), (5, .int i), (4, .ref oD), (3, .ref o), (2, .ref m), (1, .ref x), (0, .ref b)] [.int (zz a2), .int a1, .ref m] 1337 := by
      refine g_aload_n hC dL_law_1337 rfl 6 rfl ?_
      refine g_iload hC dL_law_1338 1 rfl ?_
      refine g_iconst (v := 3) hC dL_law_1340 (by decide) ?_
      refine g_iadd hC dL_law_1341 ?_
      refine g_sald hC hS s3 e3 dL_law_1342 ?_
      refine g_callV hC (rv := some (.int b9)) [.int a1, .int (zz a2), .int a3] (c_X5_readAt l D cy m a1 (zz a2) a3 w _ hF2) q_1561 q_137 q_1558 q_1559 q_1560 h9_X5_readAt (T := TX5) (N := 23) (ci := 5) rfl (fSm.k hs1 hm) ⟨Nat.le_of_ble_eq_true rfl, Nat.le_of_ble_eq_true rfl⟩ ⟨by show _ + 0 ≤ 622912; omega, by show _ + 0 ≤ 7151591; omega⟩ (Nat.le_of_ble_eq_true rfl) rfl dL_law_1343 (fun h2 hh2 hs2 => ?_)
      refine g_cs (cells + 3) (slots + 18) rfl rfl ?_
      refine g_istore (L' := [(7, .int b9), (6, .int (wK [2, 5] rx)), (5, .int i), (4, .ref oD), (3, .ref o), (2, .ref m), (1, .ref x), (0, .ref b)]) hC dL_law_1346 (by decide) rfl ?_
      refine g_aload_n hC dL_law_1348 rfl 5 rfl ?_
      refine g_callV hC (rv := some (.int t)) [] (c_X5_thrown l D cy m w2 _ hF3) q_1332 q_137 q_1329 q_1330 q_1331 h9_X5_thrown (T := TX5) (N := 23) (ci := 5) rfl (fSm.k (fSm.tr hs2 hs1) hm) ⟨Nat.le_of_ble_eq_true rfl, Nat.le_of_ble_eq_true rfl⟩ ⟨by show _ + 0 ≤ 622912; omega, by show _ + 0 ≤ 7151591; omega⟩ (Nat.le_of_ble_eq_true rfl) rfl dL_law_1349 (fun h3 hh3 hs3 => ?_)
      refine g_cs (cells + 3) (slots + 18) rfl rfl ?_
      refine g_iload hC dL_law_1352 1 rfl ?_
      refine g_icmp_eq hC 1359 dL_law_1354 (by decide) (fun _ => ?_) (fun c9 => absurd ht c9)
      refine g_iload hC dL_law_1359 1 rfl ?_
      have KE : gAt X (cells + 3) (slots + 18) 9 w2 h3 (gE2 o (some (.inl (wO rx (arrV (cy 5) 1 (fun _ => .long v)) (fun v => arrV (cy 5) 1 (fun _ => .long v.toInt64))))) oD (some (.inl (arrV (cy 6) 1 (fun _ => .double vD))))) [(7, .int b9), (6, .int (wK [2, 5] rx)), (5, .int i), (4, .ref oD), (3, .ref o), (2, .ref m), (1, .ref x), (0, .ref b)] [] 1376 := by
        refine g_goto hC 2923 dL_law_1376 (by decide) ?_
        refine g_sub (L' := [(5, .int i), (4, .ref oD), (3, .ref o), (2, .ref m), (1, .ref x), (0, .ref b)]) [2, 3, 4, 5, 6, 7] rfl ?_
        refine g_widen (k' := cells + 3) (s' := slots + 18) (by omega) (by omega) ?_
        cases rx with
        | inl u => exact k _ _ _ (by omega)
        | inr e => exact k _ _ _ (by omega)
      refine g_if_ne hC 1376 dL_law_1361 (by decide) (fun _ => KE) (fun c9 => ?_)
      obtain ⟨u, rfl⟩ := wK_0 (by decide) hes c9
      obtain rfl := hv u rfl
      refine g_aload_n hC dL_law_1364 rfl 4 rfl ?_
      refine g_iconst (v := 0) hC dL_law_1365 (by decide) ?_
      refine g_laldE (v := u.toInt64) hC (gE2_b _ _ ho) dL_law_1366 ?_
      refine g_iload hC dL_law_1367 0 rfl ?_
      refine g_i2l hC dL_law_1369 ?_
      refine g_lcmp hC dL_law_1370 ?_
      rw [lg_self]
      exact g_if_eq hC 1376 dL_law_1371 (by decide) (fun _ => KE) (fun c9 => absurd rfl c9)
    refine g_if_eq hC 1336 dL_law_1329 (by decide) (fun c9 => ?_) (fun c9 => ?_)
    · have e9 : zz a2 = 0 := if_pos c9
      rw [e9] at KM2
      exact g_iconst (v := 0) hC dL_law_1336 (by decide) KM2
    · have e9 : zz a2 = 1 := if_neg c9
      rw [e9] at KM2
      exact g_iconst (v := 1) hC dL_law_1332 (by decide) (g_goto hC 1337 dL_law_1333 (by decide) KM2)
  refine g_if_eq hC 1303 dL_law_1296 (by decide) (fun c9 => ?_) (fun c9 => ?_)
  · have e9 : zz a2 = 0 := if_pos c9
    rw [e9] at KM1
    exact g_iconst (v := 0) hC dL_law_1303 (by decide) KM1
  · have e9 : zz a2 = 1 := if_neg c9
    rw [e9] at KM1
    exact g_iconst (v := 1) hC dL_law_1299 (by decide) (g_goto hC 1304 dL_law_1300 (by decide) KM1)
set_option maxHeartbeats 4000000 in
theorem law_16 {X : FX} {l : Launch} {D : va_G} {cy : Nat → ClassId} {b Ln : Nat} {xs : Nat → Int32} {cells slots h : Nat} {w w2 : FW} {i a1 a2 a3 : Int32} {x m o oD : Nat} {v : Int64} {vD : UInt64} (hC : fOK X cL_law 9 RL room_1 l D cy) (hst : l.stackTraces = false) (hN : gNcX X) (hS : gScr X b Ln xs) (ho : o < oD) (s1 : vp_in (i + 1) Ln) (e1 : xs (i + 1).toNatClampNeg = a1) (s2 : vp_in (i + 2) Ln) (e2 : xs (i + 2).toNatClampNeg = a2) (s3 : vp_in (i + 3) Ln) (e3 : xs (i + 3).toNatClampNeg = a3) (hx : w.1 x = 5) (hm : w.1 m = 6) (hc1 : cells + 3 ≤ 622912) (hc2 : slots + 18 ≤ 7151591) (hK : KK16 x m a1 a2 a3 w w2)
    (k : ∀ (h' : Nat) (v' : Int64) (vD' : UInt64), h ≤ h' → gAt X (cells + 3) (slots + 18) 9 w2 h' (EE cy o oD v' vD') [(5, .int i), (4, .ref oD), (3, .ref o), (2, .ref m), (1, .ref x), (0, .ref b)] [] 2923) : gAt X cells slots 9 w h (EE cy o oD v vD) [(5, .int i), (4, .ref oD), (3, .ref o), (2, .ref m), (1, .ref x), (0, .ref b)] [] 1379 := by
  obtain ⟨rx, b9, t, hF1, hF2, hF3, hes, ht, hv⟩ := hK
  refine g_aload_n hC dL_law_1379 rfl 4 rfl ?_
  refine g_aload_n hC dL_law_1380 rfl 5 rfl ?_
  refine g_iload hC dL_law_1381 0 rfl ?_
  refine g_iconst (v := 1) hC dL_law_1383 (by decide) ?_
  refine g_iadd hC dL_law_1384 ?_
  refine g_sald hC hS s1 e1 dL_law_1385 ?_
  refine g_aload_n hC dL_law_1386 rfl 5 rfl ?_
  refine g_iload hC dL_law_1387 0 rfl ?_
  refine g_iconst (v := 2) hC dL_law_1389 (by decide) ?_
  refine g_iadd hC dL_law_1390 ?_
  refine g_sald hC hS s2 e2 dL_law_1391 ?_
  have KM1 : gAt X cells slots 9 w h (EE cy o oD v vD) [(5, .int i), (4, .ref oD), (3, .ref o), (2, .ref m), (1, .ref x), (0, .ref b)] [.int (zz a2), .int a1, .ref x] 1400 := by
    refine g_aload_n hC dL_law_1400 rfl 2 rfl ?_
    refine g_callW hC hst [.ref x, .int a1, .int (zz a2), .ref o] hN (c_L_doAgree l D cy x a1 (zz a2) o w v rx hF1 hx hes) q_902 q_131 q_900 q_901 h9_L_doAgree ⟨Nat.le_of_ble_eq_true rfl, Nat.le_of_ble_eq_true rfl⟩ ⟨by show _ + 1 ≤ 622912; omega, by show _ + 6 ≤ 7151591; omega⟩ (Nat.le_of_ble_eq_true rfl) (gE2_b _ _ ho) rfl dL_law_1401 (fun h1 hh1 hs1 => ?_)
    refine g_cs (cells + 1) (slots + 6) rfl rfl ?_
    refine g_nm h1 (gE2 o (some (.inl (wO rx (arrV (cy 5) 1 (fun _ => .long v)) (fun v => arrV (cy 5) 1 (fun _ => .long (if v = 0 then 0 else 1)))))) oD (some (.inl (arrV (cy 6) 1 (fun _ => .double vD))))) w [(5, .int i), (4, .ref oD), (3, .ref o), (2, .ref m), (1, .ref x), (0, .ref b)] rfl (gE2_upb _ _ _ ho).symm rfl rfl ?_
    refine g_istore (L' := [(6, .int (wK [2] rx)), (5, .int i), (4, .ref oD), (3, .ref o), (2, .ref m), (1, .ref x), (0, .ref b)]) hC dL_law_1404 (by decide) rfl ?_
    refine g_aload_n hC dL_law_1406 rfl 4 rfl ?_
    refine g_aload_n hC dL_law_1407 rfl 6 rfl ?_
    refine g_iload hC dL_law_1408 1 rfl ?_
    refine g_iconst (v := 1) hC dL_law_1410 (by decide) ?_
    refine g_iadd hC dL_law_1411 ?_
    refine g_sald hC hS s1 e1 dL_law_1412 ?_
    refine g_aload_n hC dL_law_1413 rfl 6 rfl ?_
    refine g_iload hC dL_law_1414 1 rfl ?_
    refine g_iconst (v := 2) hC dL_law_1416 (by decide) ?_
    refine g_iadd hC dL_law_1417 ?_
    refine g_sald hC hS s2 e2 dL_law_1418 ?_
    have KM2 : gAt X (cells + 1) (slots + 6) 9 w h1 (gE2 o (some (.inl (wO rx (arrV (cy 5) 1 (fun _ => .long v)) (fun v => arrV (cy 5) 1 (fun _ => .long (if v = 0 then 0 else 1)))))) oD (some (.inl (arrV (cy 6) 1 (fun _ => .double vD))))) [(6, .int (wK [2] rx)), (5, .int i), (4, .ref oD), (3, .ref o), (2, .ref m), (1, .ref x), (0, .ref b)] [.int (zz a2), .int a1, .ref m] 1427 := by
      refine g_callV hC (rv := some (.int b9)) [.int a1, .int (zz a2)] (c_X5_doAgree l D cy m a1 (zz a2) w _ hF2) q_1569 q_137 q_1566 q_1567 q_1568 h9_X5_doAgree (T := TX5) (N := 23) (ci := 5) rfl (fSm.k hs1 hm) ⟨Nat.le_of_ble_eq_true rfl, Nat.le_of_ble_eq_true rfl⟩ ⟨by show _ + 0 ≤ 622912; omega, by show _ + 0 ≤ 7151591; omega⟩ (Nat.le_of_ble_eq_true rfl) rfl dL_law_1427 (fun h2 hh2 hs2 => ?_)
      refine g_cs (cells + 1) (slots + 6) rfl rfl ?_
      refine g_istore (L' := [(7, .int b9), (6, .int (wK [2] rx)), (5, .int i), (4, .ref oD), (3, .ref o), (2, .ref m), (1, .ref x), (0, .ref b)]) hC dL_law_1430 (by decide) rfl ?_
      refine g_aload_n hC dL_law_1432 rfl 5 rfl ?_
      refine g_callV hC (rv := some (.int t)) [] (c_X5_thrown l D cy m w2 _ hF3) q_1332 q_137 q_1329 q_1330 q_1331 h9_X5_thrown (T := TX5) (N := 23) (ci := 5) rfl (fSm.k (fSm.tr hs2 hs1) hm) ⟨Nat.le_of_ble_eq_true rfl, Nat.le_of_ble_eq_true rfl⟩ ⟨by show _ + 0 ≤ 622912; omega, by show _ + 0 ≤ 7151591; omega⟩ (Nat.le_of_ble_eq_true rfl) rfl dL_law_1433 (fun h3 hh3 hs3 => ?_)
      refine g_cs (cells + 1) (slots + 6) rfl rfl ?_
      refine g_iload hC dL_law_1436 1 rfl ?_
      refine g_icmp_eq hC 1443 dL_law_1438 (by decide) (fun _ => ?_) (fun c9 => absurd ht c9)
      refine g_iload hC dL_law_1443 1 rfl ?_
      have KE : gAt X (cells + 1) (slots + 6) 9 w2 h3 (gE2 o (some (.inl (wO rx (arrV (cy 5) 1 (fun _ => .long v)) (fun v => arrV (cy 5) 1 (fun _ => .long (if v = 0 then 0 else 1)))))) oD (some (.inl (arrV (cy 6) 1 (fun _ => .double vD))))) [(7, .int b9), (6, .int (wK [2] rx)), (5, .int i), (4, .ref oD), (3, .ref o), (2, .ref m), (1, .ref x), (0, .ref b)] [] 1467 := by
        refine g_goto hC 2923 dL_law_1467 (by decide) ?_
        refine g_sub (L' := [(5, .int i), (4, .ref oD), (3, .ref o), (2, .ref m), (1, .ref x), (0, .ref b)]) [2, 3, 4, 5, 6, 7] rfl ?_
        refine g_widen (k' := cells + 3) (s' := slots + 18) (by omega) (by omega) ?_
        cases rx with
        | inl u => exact k _ _ _ (by omega)
        | inr e => exact k _ _ _ (by omega)
      refine g_if_ne hC 1467 dL_law_1445 (by decide) (fun _ => KE) (fun c9 => ?_)
      obtain ⟨u, rfl⟩ := wK_0 (by decide) hes c9
      obtain rfl := hv u rfl
      refine g_aload_n hC dL_law_1448 rfl 4 rfl ?_
      refine g_iconst (v := 0) hC dL_law_1449 (by decide) ?_
      refine g_laldE (v := (if u = 0 then 0 else 1)) hC (gE2_b _ _ ho) dL_law_1450 ?_
      refine g_iload hC dL_law_1451 0 rfl ?_
      refine g_if_eq hC 1460 dL_law_1453 (by decide) (fun c9 => ?_) (fun c9 => ?_)
      · refine g_lconst (v := 0) hC dL_law_1460 (by decide) ?_
        rw [show (if u = 0 then (0 : Int64) else 1) = 0 from if_pos c9]
        refine g_lcmp hC dL_law_1461 ?_
        rw [lg_self]
        exact g_if_eq hC 1467 dL_law_1462 (by decide) (fun _ => KE) (fun c8 => absurd rfl c8)
      · refine g_lconst (v := 1) hC dL_law_1456 (by decide) ?_
        refine g_goto hC 1461 dL_law_1457 (by decide) ?_
        rw [show (if u = 0 then (0 : Int64) else 1) = 1 from if_neg c9]
        refine g_lcmp hC dL_law_1461 ?_
        rw [lg_self]
        exact g_if_eq hC 1467 dL_law_1462 (by decide) (fun _ => KE) (fun c8 => absurd rfl c8)
    refine g_if_eq hC 1426 dL_law_1419 (by decide) (fun c9 => ?_) (fun c9 => ?_)
    · have e9 : zz a2 = 0 := if_pos c9
      rw [e9] at KM2
      exact g_iconst (v := 0) hC dL_law_1426 (by decide) KM2
    · have e9 : zz a2 = 1 := if_neg c9
      rw [e9] at KM2
      exact g_iconst (v := 1) hC dL_law_1422 (by decide) (g_goto hC 1427 dL_law_1423 (by decide) KM2)
  refine g_if_eq hC 1399 dL_law_1392 (by decide) (fun c9 => ?_) (fun c9 => ?_)
  · have e9 : zz a2 = 0 := if_pos c9
    rw [e9] at KM1
    exact g_iconst (v := 0) hC dL_law_1399 (by decide) KM1
  · have e9 : zz a2 = 1 := if_neg c9
    rw [e9] at KM1
    exact g_iconst (v := 1) hC dL_law_1395 (by decide) (g_goto hC 1400 dL_law_1396 (by decide) KM1)
set_option maxHeartbeats 4000000 in
theorem law_17 {X : FX} {l : Launch} {D : va_G} {cy : Nat → ClassId} {b Ln : Nat} {xs : Nat → Int32} {cells slots h : Nat} {w w2 : FW} {i a1 a2 a3 : Int32} {x m o oD : Nat} {v : Int64} {vD : UInt64} (hC : fOK X cL_law 9 RL room_1 l D cy) (hst : l.stackTraces = false) (hN : gNcX X) (hS : gScr X b Ln xs) (ho : o < oD) (s1 : vp_in (i + 1) Ln) (e1 : xs (i + 1).toNatClampNeg = a1) (s2 : vp_in (i + 2) Ln) (e2 : xs (i + 2).toNatClampNeg = a2) (s3 : vp_in (i + 3) Ln) (e3 : xs (i + 3).toNatClampNeg = a3) (hx : w.1 x = 5) (hm : w.1 m = 6) (hc1 : cells + 3 ≤ 622912) (hc2 : slots + 18 ≤ 7151591) (hK : KK17 x m a1 a2 a3 w w2)
    (k : ∀ (h' : Nat) (v' : Int64) (vD' : UInt64), h ≤ h' → gAt X (cells + 3) (slots + 18) 9 w2 h' (EE cy o oD v' vD') [(5, .int i), (4, .ref oD), (3, .ref o), (2, .ref m), (1, .ref x), (0, .ref b)] [] 2923) : gAt X cells slots 9 w h (EE cy o oD v vD) [(5, .int i), (4, .ref oD), (3, .ref o), (2, .ref m), (1, .ref x), (0, .ref b)] [] 1470 := by
  obtain ⟨rx, b9, t, hF1, hF2, hF3, hes, ht, hv⟩ := hK
  refine g_aload_n hC dL_law_1470 rfl 4 rfl ?_
  refine g_aload_n hC dL_law_1471 rfl 5 rfl ?_
  refine g_iload hC dL_law_1472 0 rfl ?_
  refine g_iconst (v := 1) hC dL_law_1474 (by decide) ?_
  refine g_iadd hC dL_law_1475 ?_
  refine g_sald hC hS s1 e1 dL_law_1476 ?_
  refine g_aload_n hC dL_law_1477 rfl 5 rfl ?_
  refine g_iload hC dL_law_1478 0 rfl ?_
  refine g_iconst (v := 2) hC dL_law_1480 (by decide) ?_
  refine g_iadd hC dL_law_1481 ?_
  refine g_sald hC hS s2 e2 dL_law_1482 ?_
  have KM1 : gAt X cells slots 9 w h (EE cy o oD v vD) [(5, .int i), (4, .ref oD), (3, .ref o), (2, .ref m), (1, .ref x), (0, .ref b)] [.int (zz a2), .int a1, .ref x] 1491 := by
    refine g_aload_n hC dL_law_1491 rfl 2 rfl ?_
    refine g_callW hC hst [.ref x, .int a1, .int (zz a2), .ref o] hN (c_L_moodFor l D cy x a1 (zz a2) o w v rx hF1 hx hes) q_909 q_131 q_907 q_908 h9_L_moodFor ⟨Nat.le_of_ble_eq_true rfl, Nat.le_of_ble_eq_true rfl⟩ ⟨by show _ + 3 ≤ 622912; omega, by show _ + 18 ≤ 7151591; omega⟩ (Nat.le_of_ble_eq_true rfl) (gE2_b _ _ ho) rfl dL_law_1492 (fun h1 hh1 hs1 => ?_)
    refine g_cs (cells + 3) (slots + 18) rfl rfl ?_
    refine g_nm h1 (gE2 o (some (.inl (wO rx (arrV (cy 5) 1 (fun _ => .long v)) (fun v => arrV (cy 5) 1 (fun _ => .long v.toInt64))))) oD (some (.inl (arrV (cy 6) 1 (fun _ => .double vD))))) w [(5, .int i), (4, .ref oD), (3, .ref o), (2, .ref m), (1, .ref x), (0, .ref b)] rfl (gE2_upb _ _ _ ho).symm rfl rfl ?_
    refine g_istore (L' := [(6, .int (wK [2, 5] rx)), (5, .int i), (4, .ref oD), (3, .ref o), (2, .ref m), (1, .ref x), (0, .ref b)]) hC dL_law_1495 (by decide) rfl ?_
    refine g_aload_n hC dL_law_1497 rfl 4 rfl ?_
    refine g_aload_n hC dL_law_1498 rfl 6 rfl ?_
    refine g_iload hC dL_law_1499 1 rfl ?_
    refine g_iconst (v := 1) hC dL_law_1501 (by decide) ?_
    refine g_iadd hC dL_law_1502 ?_
    refine g_sald hC hS s1 e1 dL_law_1503 ?_
    refine g_aload_n hC dL_law_1504 rfl 6 rfl ?_
    refine g_iload hC dL_law_1505 1 rfl ?_
    refine g_iconst (v := 2) hC dL_law_1507 (by decide) ?_
    refine g_iadd hC dL_law_1508 ?_
    refine g_sald hC hS s2 e2 dL_law_1509 ?_
    have KM2 : gAt X (cells + 3) (slots + 18) 9 w h1 (gE2 o (some (.inl (wO rx (arrV (cy 5) 1 (fun _ => .long v)) (fun v => arrV (cy 5) 1 (fun _ => .long v.toInt64))))) oD (some (.inl (arrV (cy 6) 1 (fun _ => .double vD))))) [(6, .int (wK [2, 5] rx)), (5, .int i), (4, .ref oD), (3, .ref o), (2, .ref m), (1, .ref x), (0, .ref b)] [.int (zz a2), .int a1, .ref m] 1518 := by
      refine g_callV hC (rv := some (.int b9)) [.int a1, .int (zz a2)] (c_X5_moodFor l D cy m a1 (zz a2) w _ hF2) q_1573 q_137 q_1570 q_1571 q_1572 h9_X5_moodFor (T := TX5) (N := 23) (ci := 5) rfl (fSm.k hs1 hm) ⟨Nat.le_of_ble_eq_true rfl, Nat.le_of_ble_eq_true rfl⟩ ⟨by show _ + 0 ≤ 622912; omega, by show _ + 0 ≤ 7151591; omega⟩ (Nat.le_of_ble_eq_true rfl) rfl dL_law_1518 (fun h2 hh2 hs2 => ?_)
      refine g_cs (cells + 3) (slots + 18) rfl rfl ?_
      refine g_istore (L' := [(7, .int b9), (6, .int (wK [2, 5] rx)), (5, .int i), (4, .ref oD), (3, .ref o), (2, .ref m), (1, .ref x), (0, .ref b)]) hC dL_law_1521 (by decide) rfl ?_
      refine g_aload_n hC dL_law_1523 rfl 5 rfl ?_
      refine g_callV hC (rv := some (.int t)) [] (c_X5_thrown l D cy m w2 _ hF3) q_1332 q_137 q_1329 q_1330 q_1331 h9_X5_thrown (T := TX5) (N := 23) (ci := 5) rfl (fSm.k (fSm.tr hs2 hs1) hm) ⟨Nat.le_of_ble_eq_true rfl, Nat.le_of_ble_eq_true rfl⟩ ⟨by show _ + 0 ≤ 622912; omega, by show _ + 0 ≤ 7151591; omega⟩ (Nat.le_of_ble_eq_true rfl) rfl dL_law_1524 (fun h3 hh3 hs3 => ?_)
      refine g_cs (cells + 3) (slots + 18) rfl rfl ?_
      refine g_iload hC dL_law_1527 1 rfl ?_
      refine g_icmp_eq hC 1534 dL_law_1529 (by decide) (fun _ => ?_) (fun c9 => absurd ht c9)
      refine g_iload hC dL_law_1534 1 rfl ?_
      have KE : gAt X (cells + 3) (slots + 18) 9 w2 h3 (gE2 o (some (.inl (wO rx (arrV (cy 5) 1 (fun _ => .long v)) (fun v => arrV (cy 5) 1 (fun _ => .long v.toInt64))))) oD (some (.inl (arrV (cy 6) 1 (fun _ => .double vD))))) [(7, .int b9), (6, .int (wK [2, 5] rx)), (5, .int i), (4, .ref oD), (3, .ref o), (2, .ref m), (1, .ref x), (0, .ref b)] [] 1551 := by
        refine g_goto hC 2923 dL_law_1551 (by decide) ?_
        refine g_sub (L' := [(5, .int i), (4, .ref oD), (3, .ref o), (2, .ref m), (1, .ref x), (0, .ref b)]) [2, 3, 4, 5, 6, 7] rfl ?_
        refine g_widen (k' := cells + 3) (s' := slots + 18) (by omega) (by omega) ?_
        cases rx with
        | inl u => exact k _ _ _ (by omega)
        | inr e => exact k _ _ _ (by omega)
      refine g_if_ne hC 1551 dL_law_1536 (by decide) (fun _ => KE) (fun c9 => ?_)
      obtain ⟨u, rfl⟩ := wK_0 (by decide) hes c9
      obtain rfl := hv u rfl
      refine g_aload_n hC dL_law_1539 rfl 4 rfl ?_
      refine g_iconst (v := 0) hC dL_law_1540 (by decide) ?_
      refine g_laldE (v := u.toInt64) hC (gE2_b _ _ ho) dL_law_1541 ?_
      refine g_iload hC dL_law_1542 0 rfl ?_
      refine g_i2l hC dL_law_1544 ?_
      refine g_lcmp hC dL_law_1545 ?_
      rw [lg_self]
      exact g_if_eq hC 1551 dL_law_1546 (by decide) (fun _ => KE) (fun c9 => absurd rfl c9)
    refine g_if_eq hC 1517 dL_law_1510 (by decide) (fun c9 => ?_) (fun c9 => ?_)
    · have e9 : zz a2 = 0 := if_pos c9
      rw [e9] at KM2
      exact g_iconst (v := 0) hC dL_law_1517 (by decide) KM2
    · have e9 : zz a2 = 1 := if_neg c9
      rw [e9] at KM2
      exact g_iconst (v := 1) hC dL_law_1513 (by decide) (g_goto hC 1518 dL_law_1514 (by decide) KM2)
  refine g_if_eq hC 1490 dL_law_1483 (by decide) (fun c9 => ?_) (fun c9 => ?_)
  · have e9 : zz a2 = 0 := if_pos c9
    rw [e9] at KM1
    exact g_iconst (v := 0) hC dL_law_1490 (by decide) KM1
  · have e9 : zz a2 = 1 := if_neg c9
    rw [e9] at KM1
    exact g_iconst (v := 1) hC dL_law_1486 (by decide) (g_goto hC 1491 dL_law_1487 (by decide) KM1)
set_option maxHeartbeats 4000000 in
theorem law_18 {X : FX} {l : Launch} {D : va_G} {cy : Nat → ClassId} {b Ln : Nat} {xs : Nat → Int32} {cells slots h : Nat} {w w2 : FW} {i a1 a2 a3 : Int32} {x m o oD : Nat} {v : Int64} {vD : UInt64} (hC : fOK X cL_law 9 RL room_1 l D cy) (hst : l.stackTraces = false) (hN : gNcX X) (hS : gScr X b Ln xs) (ho : o < oD) (s1 : vp_in (i + 1) Ln) (e1 : xs (i + 1).toNatClampNeg = a1) (s2 : vp_in (i + 2) Ln) (e2 : xs (i + 2).toNatClampNeg = a2) (s3 : vp_in (i + 3) Ln) (e3 : xs (i + 3).toNatClampNeg = a3) (hx : w.1 x = 5) (hm : w.1 m = 6) (hc1 : cells + 3 ≤ 622912) (hc2 : slots + 18 ≤ 7151591) (hK : KK18 x m a1 a2 a3 w w2)
    (k : ∀ (h' : Nat) (v' : Int64) (vD' : UInt64), h ≤ h' → gAt X (cells + 3) (slots + 18) 9 w2 h' (EE cy o oD v' vD') [(5, .int i), (4, .ref oD), (3, .ref o), (2, .ref m), (1, .ref x), (0, .ref b)] [] 2923) : gAt X cells slots 9 w h (EE cy o oD v vD) [(5, .int i), (4, .ref oD), (3, .ref o), (2, .ref m), (1, .ref x), (0, .ref b)] [] 1554 := by
  obtain ⟨rx, b9, t, hF1, hF2, hF3, hes, ht, hv⟩ := hK
  refine g_aload_n hC dL_law_1554 rfl 4 rfl ?_
  refine g_aload_n hC dL_law_1555 rfl 5 rfl ?_
  refine g_iload hC dL_law_1556 0 rfl ?_
  refine g_iconst (v := 1) hC dL_law_1558 (by decide) ?_
  refine g_iadd hC dL_law_1559 ?_
  refine g_sald hC hS s1 e1 dL_law_1560 ?_
  refine g_aload_n hC dL_law_1561 rfl 5 rfl ?_
  refine g_iload hC dL_law_1562 0 rfl ?_
  refine g_iconst (v := 2) hC dL_law_1564 (by decide) ?_
  refine g_iadd hC dL_law_1565 ?_
  refine g_sald hC hS s2 e2 dL_law_1566 ?_
  have KM1 : gAt X cells slots 9 w h (EE cy o oD v vD) [(5, .int i), (4, .ref oD), (3, .ref o), (2, .ref m), (1, .ref x), (0, .ref b)] [.int (zz a2), .int a1, .ref x] 1575 := by
    refine g_aload_n hC dL_law_1575 rfl 5 rfl ?_
    refine g_iload hC dL_law_1576 0 rfl ?_
    refine g_iconst (v := 3) hC dL_law_1578 (by decide) ?_
    refine g_iadd hC dL_law_1579 ?_
    refine g_sald hC hS s3 e3 dL_law_1580 ?_
    refine g_aload_n hC dL_law_1581 rfl 2 rfl ?_
    refine g_callW hC hst [.ref x, .int a1, .int (zz a2), .int a3, .ref o] hN (c_L_would l D cy x a1 (zz a2) a3 o w v rx hF1 hx hes) q_917 q_131 q_915 q_916 h9_L_would ⟨Nat.le_of_ble_eq_true rfl, Nat.le_of_ble_eq_true rfl⟩ ⟨by show _ + 2 ≤ 622912; omega, by show _ + 12 ≤ 7151591; omega⟩ (Nat.le_of_ble_eq_true rfl) (gE2_b _ _ ho) rfl dL_law_1582 (fun h1 hh1 hs1 => ?_)
    refine g_cs (cells + 2) (slots + 12) rfl rfl ?_
    refine g_nm h1 (gE2 o (some (.inl (wO rx (arrV (cy 5) 1 (fun _ => .long v)) (fun v => arrV (cy 5) 1 (fun _ => .long v.toInt64))))) oD (some (.inl (arrV (cy 6) 1 (fun _ => .double vD))))) w [(5, .int i), (4, .ref oD), (3, .ref o), (2, .ref m), (1, .ref x), (0, .ref b)] rfl (gE2_upb _ _ _ ho).symm rfl rfl ?_
    refine g_istore (L' := [(6, .int (wK [2, 1, 5] rx)), (5, .int i), (4, .ref oD), (3, .ref o), (2, .ref m), (1, .ref x), (0, .ref b)]) hC dL_law_1585 (by decide) rfl ?_
    refine g_aload_n hC dL_law_1587 rfl 4 rfl ?_
    refine g_aload_n hC dL_law_1588 rfl 6 rfl ?_
    refine g_iload hC dL_law_1589 1 rfl ?_
    refine g_iconst (v := 1) hC dL_law_1591 (by decide) ?_
    refine g_iadd hC dL_law_1592 ?_
    refine g_sald hC hS s1 e1 dL_law_1593 ?_
    refine g_aload_n hC dL_law_1594 rfl 6 rfl ?_
    refine g_iload hC dL_law_1595 1 rfl ?_
    refine g_iconst (v := 2) hC dL_law_1597 (by decide) ?_
    refine g_iadd hC dL_law_1598 ?_
    refine g_sald hC hS s2 e2 dL_law_1599 ?_
    have KM2 : gAt X (cells + 2) (slots + 12) 9 w h1 (gE2 o (some (.inl (wO rx (arrV (cy 5) 1 (fun _ => .long v)) (fun v => arrV (cy 5) 1 (fun _ => .long v.toInt64))))) oD (some (.inl (arrV (cy 6) 1 (fun _ => .double vD))))) [(6, .int (wK [2, 1, 5] rx)), (5, .int i), (4, .ref oD), (3, .ref o), (2, .ref m), (1, .ref x), (0, .ref b)] [.int (zz a2), .int a1, .ref m] 1608 := by
      refine g_aload_n hC dL_law_1608 rfl 6 rfl ?_
      refine g_iload hC dL_law_1609 1 rfl ?_
      refine g_iconst (v := 3) hC dL_law_1611 (by decide) ?_
      refine g_iadd hC dL_law_1612 ?_
      refine g_sald hC hS s3 e3 dL_law_1613 ?_
      refine g_callV hC (rv := some (.int b9)) [.int a1, .int (zz a2), .int a3] (c_X5_would l D cy m a1 (zz a2) a3 w _ hF2) q_1581 q_137 q_1578 q_1579 q_1580 h9_X5_would (T := TX5) (N := 23) (ci := 5) rfl (fSm.k hs1 hm) ⟨Nat.le_of_ble_eq_true rfl, Nat.le_of_ble_eq_true rfl⟩ ⟨by show _ + 0 ≤ 622912; omega, by show _ + 0 ≤ 7151591; omega⟩ (Nat.le_of_ble_eq_true rfl) rfl dL_law_1614 (fun h2 hh2 hs2 => ?_)
      refine g_cs (cells + 2) (slots + 12) rfl rfl ?_
      refine g_istore (L' := [(7, .int b9), (6, .int (wK [2, 1, 5] rx)), (5, .int i), (4, .ref oD), (3, .ref o), (2, .ref m), (1, .ref x), (0, .ref b)]) hC dL_law_1617 (by decide) rfl ?_
      refine g_aload_n hC dL_law_1619 rfl 5 rfl ?_
      refine g_callV hC (rv := some (.int t)) [] (c_X5_thrown l D cy m w2 _ hF3) q_1332 q_137 q_1329 q_1330 q_1331 h9_X5_thrown (T := TX5) (N := 23) (ci := 5) rfl (fSm.k (fSm.tr hs2 hs1) hm) ⟨Nat.le_of_ble_eq_true rfl, Nat.le_of_ble_eq_true rfl⟩ ⟨by show _ + 0 ≤ 622912; omega, by show _ + 0 ≤ 7151591; omega⟩ (Nat.le_of_ble_eq_true rfl) rfl dL_law_1620 (fun h3 hh3 hs3 => ?_)
      refine g_cs (cells + 2) (slots + 12) rfl rfl ?_
      refine g_iload hC dL_law_1623 1 rfl ?_
      refine g_icmp_eq hC 1630 dL_law_1625 (by decide) (fun _ => ?_) (fun c9 => absurd ht c9)
      refine g_iload hC dL_law_1630 1 rfl ?_
      have KE : gAt X (cells + 2) (slots + 12) 9 w2 h3 (gE2 o (some (.inl (wO rx (arrV (cy 5) 1 (fun _ => .long v)) (fun v => arrV (cy 5) 1 (fun _ => .long v.toInt64))))) oD (some (.inl (arrV (cy 6) 1 (fun _ => .double vD))))) [(7, .int b9), (6, .int (wK [2, 1, 5] rx)), (5, .int i), (4, .ref oD), (3, .ref o), (2, .ref m), (1, .ref x), (0, .ref b)] [] 1647 := by
        refine g_goto hC 2923 dL_law_1647 (by decide) ?_
        refine g_sub (L' := [(5, .int i), (4, .ref oD), (3, .ref o), (2, .ref m), (1, .ref x), (0, .ref b)]) [2, 3, 4, 5, 6, 7] rfl ?_
        refine g_widen (k' := cells + 3) (s' := slots + 18) (by omega) (by omega) ?_
        cases rx with
        | inl u => exact k _ _ _ (by omega)
        | inr e => exact k _ _ _ (by omega)
      refine g_if_ne hC 1647 dL_law_1632 (by decide) (fun _ => KE) (fun c9 => ?_)
      obtain ⟨u, rfl⟩ := wK_0 (by decide) hes c9
      obtain rfl := hv u rfl
      refine g_aload_n hC dL_law_1635 rfl 4 rfl ?_
      refine g_iconst (v := 0) hC dL_law_1636 (by decide) ?_
      refine g_laldE (v := u.toInt64) hC (gE2_b _ _ ho) dL_law_1637 ?_
      refine g_iload hC dL_law_1638 0 rfl ?_
      refine g_i2l hC dL_law_1640 ?_
      refine g_lcmp hC dL_law_1641 ?_
      rw [lg_self]
      exact g_if_eq hC 1647 dL_law_1642 (by decide) (fun _ => KE) (fun c9 => absurd rfl c9)
    refine g_if_eq hC 1607 dL_law_1600 (by decide) (fun c9 => ?_) (fun c9 => ?_)
    · have e9 : zz a2 = 0 := if_pos c9
      rw [e9] at KM2
      exact g_iconst (v := 0) hC dL_law_1607 (by decide) KM2
    · have e9 : zz a2 = 1 := if_neg c9
      rw [e9] at KM2
      exact g_iconst (v := 1) hC dL_law_1603 (by decide) (g_goto hC 1608 dL_law_1604 (by decide) KM2)
  refine g_if_eq hC 1574 dL_law_1567 (by decide) (fun c9 => ?_) (fun c9 => ?_)
  · have e9 : zz a2 = 0 := if_pos c9
    rw [e9] at KM1
    exact g_iconst (v := 0) hC dL_law_1574 (by decide) KM1
  · have e9 : zz a2 = 1 := if_neg c9
    rw [e9] at KM1
    exact g_iconst (v := 1) hC dL_law_1570 (by decide) (g_goto hC 1575 dL_law_1571 (by decide) KM1)
set_option maxHeartbeats 4000000 in
theorem law_19 {X : FX} {l : Launch} {D : va_G} {cy : Nat → ClassId} {b Ln : Nat} {xs : Nat → Int32} {cells slots h : Nat} {w w2 : FW} {i a1 a2 a3 : Int32} {x m o oD : Nat} {v : Int64} {vD : UInt64} (hC : fOK X cL_law 9 RL room_1 l D cy) (hst : l.stackTraces = false) (hN : gNcX X) (hS : gScr X b Ln xs) (ho : o < oD) (s1 : vp_in (i + 1) Ln) (e1 : xs (i + 1).toNatClampNeg = a1) (s2 : vp_in (i + 2) Ln) (e2 : xs (i + 2).toNatClampNeg = a2) (s3 : vp_in (i + 3) Ln) (e3 : xs (i + 3).toNatClampNeg = a3) (hx : w.1 x = 5) (hm : w.1 m = 6) (hc1 : cells + 3 ≤ 622912) (hc2 : slots + 18 ≤ 7151591) (hK : KK19 x m a1 a2 a3 w w2)
    (k : ∀ (h' : Nat) (v' : Int64) (vD' : UInt64), h ≤ h' → gAt X (cells + 3) (slots + 18) 9 w2 h' (EE cy o oD v' vD') [(5, .int i), (4, .ref oD), (3, .ref o), (2, .ref m), (1, .ref x), (0, .ref b)] [] 2923) : gAt X cells slots 9 w h (EE cy o oD v vD) [(5, .int i), (4, .ref oD), (3, .ref o), (2, .ref m), (1, .ref x), (0, .ref b)] [] 1650 := by
  obtain ⟨rx, b9, t, hF1, hF2, hF3, hes, ht, hv⟩ := hK
  refine g_aload_n hC dL_law_1650 rfl 4 rfl ?_
  refine g_aload_n hC dL_law_1651 rfl 5 rfl ?_
  refine g_iload hC dL_law_1652 0 rfl ?_
  refine g_iconst (v := 1) hC dL_law_1654 (by decide) ?_
  refine g_iadd hC dL_law_1655 ?_
  refine g_sald hC hS s1 e1 dL_law_1656 ?_
  refine g_aload_n hC dL_law_1657 rfl 5 rfl ?_
  refine g_iload hC dL_law_1658 0 rfl ?_
  refine g_iconst (v := 2) hC dL_law_1660 (by decide) ?_
  refine g_iadd hC dL_law_1661 ?_
  refine g_sald hC hS s2 e2 dL_law_1662 ?_
  have KM1 : gAt X cells slots 9 w h (EE cy o oD v vD) [(5, .int i), (4, .ref oD), (3, .ref o), (2, .ref m), (1, .ref x), (0, .ref b)] [.int (zz a2), .int a1, .ref x] 1671 := by
    refine g_aload_n hC dL_law_1671 rfl 2 rfl ?_
    refine g_callW hC hst [.ref x, .int a1, .int (zz a2), .ref o] hN (c_L_likely l D cy x a1 (zz a2) o w v rx hF1 hx hes) q_926 q_131 q_924 q_925 h9_L_likely ⟨Nat.le_of_ble_eq_true rfl, Nat.le_of_ble_eq_true rfl⟩ ⟨by show _ + 2 ≤ 622912; omega, by show _ + 12 ≤ 7151591; omega⟩ (Nat.le_of_ble_eq_true rfl) (gE2_b _ _ ho) rfl dL_law_1672 (fun h1 hh1 hs1 => ?_)
    refine g_cs (cells + 2) (slots + 12) rfl rfl ?_
    refine g_nm h1 (gE2 o (some (.inl (wO rx (arrV (cy 5) 1 (fun _ => .long v)) (fun v => arrV (cy 5) 1 (fun _ => .long v.toInt64))))) oD (some (.inl (arrV (cy 6) 1 (fun _ => .double vD))))) w [(5, .int i), (4, .ref oD), (3, .ref o), (2, .ref m), (1, .ref x), (0, .ref b)] rfl (gE2_upb _ _ _ ho).symm rfl rfl ?_
    refine g_istore (L' := [(6, .int (wK [2, 5] rx)), (5, .int i), (4, .ref oD), (3, .ref o), (2, .ref m), (1, .ref x), (0, .ref b)]) hC dL_law_1675 (by decide) rfl ?_
    refine g_aload_n hC dL_law_1677 rfl 4 rfl ?_
    refine g_aload_n hC dL_law_1678 rfl 6 rfl ?_
    refine g_iload hC dL_law_1679 1 rfl ?_
    refine g_iconst (v := 1) hC dL_law_1681 (by decide) ?_
    refine g_iadd hC dL_law_1682 ?_
    refine g_sald hC hS s1 e1 dL_law_1683 ?_
    refine g_aload_n hC dL_law_1684 rfl 6 rfl ?_
    refine g_iload hC dL_law_1685 1 rfl ?_
    refine g_iconst (v := 2) hC dL_law_1687 (by decide) ?_
    refine g_iadd hC dL_law_1688 ?_
    refine g_sald hC hS s2 e2 dL_law_1689 ?_
    have KM2 : gAt X (cells + 2) (slots + 12) 9 w h1 (gE2 o (some (.inl (wO rx (arrV (cy 5) 1 (fun _ => .long v)) (fun v => arrV (cy 5) 1 (fun _ => .long v.toInt64))))) oD (some (.inl (arrV (cy 6) 1 (fun _ => .double vD))))) [(6, .int (wK [2, 5] rx)), (5, .int i), (4, .ref oD), (3, .ref o), (2, .ref m), (1, .ref x), (0, .ref b)] [.int (zz a2), .int a1, .ref m] 1698 := by
      refine g_callV hC (rv := some (.int b9)) [.int a1, .int (zz a2)] (c_X5_likely l D cy m a1 (zz a2) w _ hF2) q_1585 q_137 q_1582 q_1583 q_1584 h9_X5_likely (T := TX5) (N := 23) (ci := 5) rfl (fSm.k hs1 hm) ⟨Nat.le_of_ble_eq_true rfl, Nat.le_of_ble_eq_true rfl⟩ ⟨by show _ + 0 ≤ 622912; omega, by show _ + 0 ≤ 7151591; omega⟩ (Nat.le_of_ble_eq_true rfl) rfl dL_law_1698 (fun h2 hh2 hs2 => ?_)
      refine g_cs (cells + 2) (slots + 12) rfl rfl ?_
      refine g_istore (L' := [(7, .int b9), (6, .int (wK [2, 5] rx)), (5, .int i), (4, .ref oD), (3, .ref o), (2, .ref m), (1, .ref x), (0, .ref b)]) hC dL_law_1701 (by decide) rfl ?_
      refine g_aload_n hC dL_law_1703 rfl 5 rfl ?_
      refine g_callV hC (rv := some (.int t)) [] (c_X5_thrown l D cy m w2 _ hF3) q_1332 q_137 q_1329 q_1330 q_1331 h9_X5_thrown (T := TX5) (N := 23) (ci := 5) rfl (fSm.k (fSm.tr hs2 hs1) hm) ⟨Nat.le_of_ble_eq_true rfl, Nat.le_of_ble_eq_true rfl⟩ ⟨by show _ + 0 ≤ 622912; omega, by show _ + 0 ≤ 7151591; omega⟩ (Nat.le_of_ble_eq_true rfl) rfl dL_law_1704 (fun h3 hh3 hs3 => ?_)
      refine g_cs (cells + 2) (slots + 12) rfl rfl ?_
      refine g_iload hC dL_law_1707 1 rfl ?_
      refine g_icmp_eq hC 1714 dL_law_1709 (by decide) (fun _ => ?_) (fun c9 => absurd ht c9)
      refine g_iload hC dL_law_1714 1 rfl ?_
      have KE : gAt X (cells + 2) (slots + 12) 9 w2 h3 (gE2 o (some (.inl (wO rx (arrV (cy 5) 1 (fun _ => .long v)) (fun v => arrV (cy 5) 1 (fun _ => .long v.toInt64))))) oD (some (.inl (arrV (cy 6) 1 (fun _ => .double vD))))) [(7, .int b9), (6, .int (wK [2, 5] rx)), (5, .int i), (4, .ref oD), (3, .ref o), (2, .ref m), (1, .ref x), (0, .ref b)] [] 1731 := by
        refine g_goto hC 2923 dL_law_1731 (by decide) ?_
        refine g_sub (L' := [(5, .int i), (4, .ref oD), (3, .ref o), (2, .ref m), (1, .ref x), (0, .ref b)]) [2, 3, 4, 5, 6, 7] rfl ?_
        refine g_widen (k' := cells + 3) (s' := slots + 18) (by omega) (by omega) ?_
        cases rx with
        | inl u => exact k _ _ _ (by omega)
        | inr e => exact k _ _ _ (by omega)
      refine g_if_ne hC 1731 dL_law_1716 (by decide) (fun _ => KE) (fun c9 => ?_)
      obtain ⟨u, rfl⟩ := wK_0 (by decide) hes c9
      obtain rfl := hv u rfl
      refine g_aload_n hC dL_law_1719 rfl 4 rfl ?_
      refine g_iconst (v := 0) hC dL_law_1720 (by decide) ?_
      refine g_laldE (v := u.toInt64) hC (gE2_b _ _ ho) dL_law_1721 ?_
      refine g_iload hC dL_law_1722 0 rfl ?_
      refine g_i2l hC dL_law_1724 ?_
      refine g_lcmp hC dL_law_1725 ?_
      rw [lg_self]
      exact g_if_eq hC 1731 dL_law_1726 (by decide) (fun _ => KE) (fun c9 => absurd rfl c9)
    refine g_if_eq hC 1697 dL_law_1690 (by decide) (fun c9 => ?_) (fun c9 => ?_)
    · have e9 : zz a2 = 0 := if_pos c9
      rw [e9] at KM2
      exact g_iconst (v := 0) hC dL_law_1697 (by decide) KM2
    · have e9 : zz a2 = 1 := if_neg c9
      rw [e9] at KM2
      exact g_iconst (v := 1) hC dL_law_1693 (by decide) (g_goto hC 1698 dL_law_1694 (by decide) KM2)
  refine g_if_eq hC 1670 dL_law_1663 (by decide) (fun c9 => ?_) (fun c9 => ?_)
  · have e9 : zz a2 = 0 := if_pos c9
    rw [e9] at KM1
    exact g_iconst (v := 0) hC dL_law_1670 (by decide) KM1
  · have e9 : zz a2 = 1 := if_neg c9
    rw [e9] at KM1
    exact g_iconst (v := 1) hC dL_law_1666 (by decide) (g_goto hC 1671 dL_law_1667 (by decide) KM1)
set_option maxHeartbeats 4000000 in
theorem law_20 {X : FX} {l : Launch} {D : va_G} {cy : Nat → ClassId} {b Ln : Nat} {xs : Nat → Int32} {cells slots h : Nat} {w w2 : FW} {i a1 a2 a3 : Int32} {x m o oD : Nat} {v : Int64} {vD : UInt64} (hC : fOK X cL_law 9 RL room_1 l D cy) (hst : l.stackTraces = false) (hN : gNcX X) (hS : gScr X b Ln xs) (ho : o < oD) (s1 : vp_in (i + 1) Ln) (e1 : xs (i + 1).toNatClampNeg = a1) (s2 : vp_in (i + 2) Ln) (e2 : xs (i + 2).toNatClampNeg = a2) (s3 : vp_in (i + 3) Ln) (e3 : xs (i + 3).toNatClampNeg = a3) (hx : w.1 x = 5) (hm : w.1 m = 6) (hc1 : cells + 3 ≤ 622912) (hc2 : slots + 18 ≤ 7151591) (hK : KK20 x m a1 a2 a3 w w2)
    (k : ∀ (h' : Nat) (v' : Int64) (vD' : UInt64), h ≤ h' → gAt X (cells + 3) (slots + 18) 9 w2 h' (EE cy o oD v' vD') [(5, .int i), (4, .ref oD), (3, .ref o), (2, .ref m), (1, .ref x), (0, .ref b)] [] 2923) : gAt X cells slots 9 w h (EE cy o oD v vD) [(5, .int i), (4, .ref oD), (3, .ref o), (2, .ref m), (1, .ref x), (0, .ref b)] [] 1734 := by
  obtain ⟨rx, w1, b9, t, hF1, hF2, hF3, hes, ht, hv⟩ := hK
  refine g_aload_n hC dL_law_1734 rfl 4 rfl ?_
  refine g_aload_n hC dL_law_1735 rfl 5 rfl ?_
  refine g_iload hC dL_law_1736 0 rfl ?_
  refine g_iconst (v := 1) hC dL_law_1738 (by decide) ?_
  refine g_iadd hC dL_law_1739 ?_
  refine g_sald hC hS s1 e1 dL_law_1740 ?_
  refine g_aload_n hC dL_law_1741 rfl 5 rfl ?_
  refine g_iload hC dL_law_1742 0 rfl ?_
  refine g_iconst (v := 2) hC dL_law_1744 (by decide) ?_
  refine g_iadd hC dL_law_1745 ?_
  refine g_sald hC hS s2 e2 dL_law_1746 ?_
  have KM1 : gAt X cells slots 9 w h (EE cy o oD v vD) [(5, .int i), (4, .ref oD), (3, .ref o), (2, .ref m), (1, .ref x), (0, .ref b)] [.int (zz a2), .int a1, .ref x] 1755 := by
    refine g_aload_n hC dL_law_1755 rfl 2 rfl ?_
    refine g_callW hC hst [.ref x, .int a1, .int (zz a2), .ref o] hN (c_L_ride l D cy x a1 (zz a2) o w w1 v rx hF1 hx hes) q_941 q_131 q_939 q_940 h9_L_ride ⟨Nat.le_of_ble_eq_true rfl, Nat.le_of_ble_eq_true rfl⟩ ⟨by show _ + 1 ≤ 622912; omega, by show _ + 6 ≤ 7151591; omega⟩ (Nat.le_of_ble_eq_true rfl) (gE2_b _ _ ho) rfl dL_law_1756 (fun h1 hh1 hs1 => ?_)
    refine g_cs (cells + 1) (slots + 6) rfl rfl ?_
    refine g_nm h1 (gE2 o (some (.inl (wO rx (arrV (cy 5) 1 (fun _ => .long v)) (fun v => arrV (cy 5) 1 (fun _ => .long v.toInt64))))) oD (some (.inl (arrV (cy 6) 1 (fun _ => .double vD))))) w1 [(5, .int i), (4, .ref oD), (3, .ref o), (2, .ref m), (1, .ref x), (0, .ref b)] rfl (gE2_upb _ _ _ ho).symm rfl rfl ?_
    refine g_istore (L' := [(6, .int (wK [2, 4] rx)), (5, .int i), (4, .ref oD), (3, .ref o), (2, .ref m), (1, .ref x), (0, .ref b)]) hC dL_law_1759 (by decide) rfl ?_
    refine g_aload_n hC dL_law_1761 rfl 4 rfl ?_
    refine g_aload_n hC dL_law_1762 rfl 6 rfl ?_
    refine g_iload hC dL_law_1763 1 rfl ?_
    refine g_iconst (v := 1) hC dL_law_1765 (by decide) ?_
    refine g_iadd hC dL_law_1766 ?_
    refine g_sald hC hS s1 e1 dL_law_1767 ?_
    refine g_aload_n hC dL_law_1768 rfl 6 rfl ?_
    refine g_iload hC dL_law_1769 1 rfl ?_
    refine g_iconst (v := 2) hC dL_law_1771 (by decide) ?_
    refine g_iadd hC dL_law_1772 ?_
    refine g_sald hC hS s2 e2 dL_law_1773 ?_
    have KM2 : gAt X (cells + 1) (slots + 6) 9 w1 h1 (gE2 o (some (.inl (wO rx (arrV (cy 5) 1 (fun _ => .long v)) (fun v => arrV (cy 5) 1 (fun _ => .long v.toInt64))))) oD (some (.inl (arrV (cy 6) 1 (fun _ => .double vD))))) [(6, .int (wK [2, 4] rx)), (5, .int i), (4, .ref oD), (3, .ref o), (2, .ref m), (1, .ref x), (0, .ref b)] [.int (zz a2), .int a1, .ref m] 1782 := by
      refine g_callV hC (rv := some (.int b9)) [.int a1, .int (zz a2)] (c_X5_ride l D cy m a1 (zz a2) w1 _ hF2) q_1593 q_137 q_1590 q_1591 q_1592 h9_X5_ride (T := TX5) (N := 23) (ci := 5) rfl (fSm.k hs1 hm) ⟨Nat.le_of_ble_eq_true rfl, Nat.le_of_ble_eq_true rfl⟩ ⟨by show _ + 0 ≤ 622912; omega, by show _ + 0 ≤ 7151591; omega⟩ (Nat.le_of_ble_eq_true rfl) rfl dL_law_1782 (fun h2 hh2 hs2 => ?_)
      refine g_cs (cells + 1) (slots + 6) rfl rfl ?_
      refine g_istore (L' := [(7, .int b9), (6, .int (wK [2, 4] rx)), (5, .int i), (4, .ref oD), (3, .ref o), (2, .ref m), (1, .ref x), (0, .ref b)]) hC dL_law_1785 (by decide) rfl ?_
      refine g_aload_n hC dL_law_1787 rfl 5 rfl ?_
      refine g_callV hC (rv := some (.int t)) [] (c_X5_thrown l D cy m w2 _ hF3) q_1332 q_137 q_1329 q_1330 q_1331 h9_X5_thrown (T := TX5) (N := 23) (ci := 5) rfl (fSm.k (fSm.tr hs2 hs1) hm) ⟨Nat.le_of_ble_eq_true rfl, Nat.le_of_ble_eq_true rfl⟩ ⟨by show _ + 0 ≤ 622912; omega, by show _ + 0 ≤ 7151591; omega⟩ (Nat.le_of_ble_eq_true rfl) rfl dL_law_1788 (fun h3 hh3 hs3 => ?_)
      refine g_cs (cells + 1) (slots + 6) rfl rfl ?_
      refine g_iload hC dL_law_1791 1 rfl ?_
      refine g_icmp_eq hC 1798 dL_law_1793 (by decide) (fun _ => ?_) (fun c9 => absurd ht c9)
      refine g_iload hC dL_law_1798 1 rfl ?_
      have KE : gAt X (cells + 1) (slots + 6) 9 w2 h3 (gE2 o (some (.inl (wO rx (arrV (cy 5) 1 (fun _ => .long v)) (fun v => arrV (cy 5) 1 (fun _ => .long v.toInt64))))) oD (some (.inl (arrV (cy 6) 1 (fun _ => .double vD))))) [(7, .int b9), (6, .int (wK [2, 4] rx)), (5, .int i), (4, .ref oD), (3, .ref o), (2, .ref m), (1, .ref x), (0, .ref b)] [] 1815 := by
        refine g_goto hC 2923 dL_law_1815 (by decide) ?_
        refine g_sub (L' := [(5, .int i), (4, .ref oD), (3, .ref o), (2, .ref m), (1, .ref x), (0, .ref b)]) [2, 3, 4, 5, 6, 7] rfl ?_
        refine g_widen (k' := cells + 3) (s' := slots + 18) (by omega) (by omega) ?_
        cases rx with
        | inl u => exact k _ _ _ (by omega)
        | inr e => exact k _ _ _ (by omega)
      refine g_if_ne hC 1815 dL_law_1800 (by decide) (fun _ => KE) (fun c9 => ?_)
      obtain ⟨u, rfl⟩ := wK_0 (by decide) hes c9
      obtain rfl := hv u rfl
      refine g_aload_n hC dL_law_1803 rfl 4 rfl ?_
      refine g_iconst (v := 0) hC dL_law_1804 (by decide) ?_
      refine g_laldE (v := u.toInt64) hC (gE2_b _ _ ho) dL_law_1805 ?_
      refine g_iload hC dL_law_1806 0 rfl ?_
      refine g_i2l hC dL_law_1808 ?_
      refine g_lcmp hC dL_law_1809 ?_
      rw [lg_self]
      exact g_if_eq hC 1815 dL_law_1810 (by decide) (fun _ => KE) (fun c9 => absurd rfl c9)
    refine g_if_eq hC 1781 dL_law_1774 (by decide) (fun c9 => ?_) (fun c9 => ?_)
    · have e9 : zz a2 = 0 := if_pos c9
      rw [e9] at KM2
      exact g_iconst (v := 0) hC dL_law_1781 (by decide) KM2
    · have e9 : zz a2 = 1 := if_neg c9
      rw [e9] at KM2
      exact g_iconst (v := 1) hC dL_law_1777 (by decide) (g_goto hC 1782 dL_law_1778 (by decide) KM2)
  refine g_if_eq hC 1754 dL_law_1747 (by decide) (fun c9 => ?_) (fun c9 => ?_)
  · have e9 : zz a2 = 0 := if_pos c9
    rw [e9] at KM1
    exact g_iconst (v := 0) hC dL_law_1754 (by decide) KM1
  · have e9 : zz a2 = 1 := if_neg c9
    rw [e9] at KM1
    exact g_iconst (v := 1) hC dL_law_1750 (by decide) (g_goto hC 1755 dL_law_1751 (by decide) KM1)
set_option maxHeartbeats 4000000 in
theorem law_21 {X : FX} {l : Launch} {D : va_G} {cy : Nat → ClassId} {b Ln : Nat} {xs : Nat → Int32} {cells slots h : Nat} {w w2 : FW} {i a1 a2 a3 : Int32} {x m o oD : Nat} {v : Int64} {vD : UInt64} (hC : fOK X cL_law 9 RL room_1 l D cy) (hst : l.stackTraces = false) (hN : gNcX X) (hS : gScr X b Ln xs) (ho : o < oD) (s1 : vp_in (i + 1) Ln) (e1 : xs (i + 1).toNatClampNeg = a1) (s2 : vp_in (i + 2) Ln) (e2 : xs (i + 2).toNatClampNeg = a2) (s3 : vp_in (i + 3) Ln) (e3 : xs (i + 3).toNatClampNeg = a3) (hx : w.1 x = 5) (hm : w.1 m = 6) (hc1 : cells + 3 ≤ 622912) (hc2 : slots + 18 ≤ 7151591) (hK : KK21 x m a1 a2 a3 w w2)
    (k : ∀ (h' : Nat) (v' : Int64) (vD' : UInt64), h ≤ h' → gAt X (cells + 3) (slots + 18) 9 w2 h' (EE cy o oD v' vD') [(5, .int i), (4, .ref oD), (3, .ref o), (2, .ref m), (1, .ref x), (0, .ref b)] [] 2923) : gAt X cells slots 9 w h (EE cy o oD v vD) [(5, .int i), (4, .ref oD), (3, .ref o), (2, .ref m), (1, .ref x), (0, .ref b)] [] 1818 := by
  obtain ⟨rx, b9, t, hF1, hF2, hF3, hes, ht, hv⟩ := hK
  refine g_aload_n hC dL_law_1818 rfl 4 rfl ?_
  refine g_aload_n hC dL_law_1819 rfl 5 rfl ?_
  refine g_iload hC dL_law_1820 0 rfl ?_
  refine g_iconst (v := 1) hC dL_law_1822 (by decide) ?_
  refine g_iadd hC dL_law_1823 ?_
  refine g_sald hC hS s1 e1 dL_law_1824 ?_
  refine g_aload_n hC dL_law_1825 rfl 5 rfl ?_
  refine g_iload hC dL_law_1826 0 rfl ?_
  refine g_iconst (v := 2) hC dL_law_1828 (by decide) ?_
  refine g_iadd hC dL_law_1829 ?_
  refine g_sald hC hS s2 e2 dL_law_1830 ?_
  have KM1 : gAt X cells slots 9 w h (EE cy o oD v vD) [(5, .int i), (4, .ref oD), (3, .ref o), (2, .ref m), (1, .ref x), (0, .ref b)] [.int (zz a2), .int a1, .ref x] 1839 := by
    refine g_aload_n hC dL_law_1839 rfl 2 rfl ?_
    refine g_callW hC hst [.ref x, .int a1, .int (zz a2), .ref o] hN (c_L_hinders l D cy x a1 (zz a2) o w v rx hF1 hx hes) q_969 q_131 q_967 q_968 h9_L_hinders ⟨Nat.le_of_ble_eq_true rfl, Nat.le_of_ble_eq_true rfl⟩ ⟨by show _ + 1 ≤ 622912; omega, by show _ + 6 ≤ 7151591; omega⟩ (Nat.le_of_ble_eq_true rfl) (gE2_b _ _ ho) rfl dL_law_1840 (fun h1 hh1 hs1 => ?_)
    refine g_cs (cells + 1) (slots + 6) rfl rfl ?_
    refine g_nm h1 (gE2 o (some (.inl (wO rx (arrV (cy 5) 1 (fun _ => .long v)) (fun v => arrV (cy 5) 1 (fun _ => .long v.toInt64))))) oD (some (.inl (arrV (cy 6) 1 (fun _ => .double vD))))) w [(5, .int i), (4, .ref oD), (3, .ref o), (2, .ref m), (1, .ref x), (0, .ref b)] rfl (gE2_upb _ _ _ ho).symm rfl rfl ?_
    refine g_istore (L' := [(6, .int (wK [2] rx)), (5, .int i), (4, .ref oD), (3, .ref o), (2, .ref m), (1, .ref x), (0, .ref b)]) hC dL_law_1843 (by decide) rfl ?_
    refine g_aload_n hC dL_law_1845 rfl 4 rfl ?_
    refine g_aload_n hC dL_law_1846 rfl 6 rfl ?_
    refine g_iload hC dL_law_1847 1 rfl ?_
    refine g_iconst (v := 1) hC dL_law_1849 (by decide) ?_
    refine g_iadd hC dL_law_1850 ?_
    refine g_sald hC hS s1 e1 dL_law_1851 ?_
    refine g_aload_n hC dL_law_1852 rfl 6 rfl ?_
    refine g_iload hC dL_law_1853 1 rfl ?_
    refine g_iconst (v := 2) hC dL_law_1855 (by decide) ?_
    refine g_iadd hC dL_law_1856 ?_
    refine g_sald hC hS s2 e2 dL_law_1857 ?_
    have KM2 : gAt X (cells + 1) (slots + 6) 9 w h1 (gE2 o (some (.inl (wO rx (arrV (cy 5) 1 (fun _ => .long v)) (fun v => arrV (cy 5) 1 (fun _ => .long v.toInt64))))) oD (some (.inl (arrV (cy 6) 1 (fun _ => .double vD))))) [(6, .int (wK [2] rx)), (5, .int i), (4, .ref oD), (3, .ref o), (2, .ref m), (1, .ref x), (0, .ref b)] [.int (zz a2), .int a1, .ref m] 1866 := by
      refine g_callV hC (rv := some (.int b9)) [.int a1, .int (zz a2)] (c_X5_hinders l D cy m a1 (zz a2) w _ hF2) q_1613 q_137 q_1610 q_1611 q_1612 h9_X5_hinders (T := TX5) (N := 23) (ci := 5) rfl (fSm.k hs1 hm) ⟨Nat.le_of_ble_eq_true rfl, Nat.le_of_ble_eq_true rfl⟩ ⟨by show _ + 0 ≤ 622912; omega, by show _ + 0 ≤ 7151591; omega⟩ (Nat.le_of_ble_eq_true rfl) rfl dL_law_1866 (fun h2 hh2 hs2 => ?_)
      refine g_cs (cells + 1) (slots + 6) rfl rfl ?_
      refine g_istore (L' := [(7, .int b9), (6, .int (wK [2] rx)), (5, .int i), (4, .ref oD), (3, .ref o), (2, .ref m), (1, .ref x), (0, .ref b)]) hC dL_law_1869 (by decide) rfl ?_
      refine g_aload_n hC dL_law_1871 rfl 5 rfl ?_
      refine g_callV hC (rv := some (.int t)) [] (c_X5_thrown l D cy m w2 _ hF3) q_1332 q_137 q_1329 q_1330 q_1331 h9_X5_thrown (T := TX5) (N := 23) (ci := 5) rfl (fSm.k (fSm.tr hs2 hs1) hm) ⟨Nat.le_of_ble_eq_true rfl, Nat.le_of_ble_eq_true rfl⟩ ⟨by show _ + 0 ≤ 622912; omega, by show _ + 0 ≤ 7151591; omega⟩ (Nat.le_of_ble_eq_true rfl) rfl dL_law_1872 (fun h3 hh3 hs3 => ?_)
      refine g_cs (cells + 1) (slots + 6) rfl rfl ?_
      refine g_iload hC dL_law_1875 1 rfl ?_
      refine g_icmp_eq hC 1882 dL_law_1877 (by decide) (fun _ => ?_) (fun c9 => absurd ht c9)
      refine g_iload hC dL_law_1882 1 rfl ?_
      have KE : gAt X (cells + 1) (slots + 6) 9 w2 h3 (gE2 o (some (.inl (wO rx (arrV (cy 5) 1 (fun _ => .long v)) (fun v => arrV (cy 5) 1 (fun _ => .long v.toInt64))))) oD (some (.inl (arrV (cy 6) 1 (fun _ => .double vD))))) [(7, .int b9), (6, .int (wK [2] rx)), (5, .int i), (4, .ref oD), (3, .ref o), (2, .ref m), (1, .ref x), (0, .ref b)] [] 1899 := by
        refine g_goto hC 2923 dL_law_1899 (by decide) ?_
        refine g_sub (L' := [(5, .int i), (4, .ref oD), (3, .ref o), (2, .ref m), (1, .ref x), (0, .ref b)]) [2, 3, 4, 5, 6, 7] rfl ?_
        refine g_widen (k' := cells + 3) (s' := slots + 18) (by omega) (by omega) ?_
        cases rx with
        | inl u => exact k _ _ _ (by omega)
        | inr e => exact k _ _ _ (by omega)
      refine g_if_ne hC 1899 dL_law_1884 (by decide) (fun _ => KE) (fun c9 => ?_)
      obtain ⟨u, rfl⟩ := wK_0 (by decide) hes c9
      obtain rfl := hv u rfl
      refine g_aload_n hC dL_law_1887 rfl 4 rfl ?_
      refine g_iconst (v := 0) hC dL_law_1888 (by decide) ?_
      refine g_laldE (v := u.toInt64) hC (gE2_b _ _ ho) dL_law_1889 ?_
      refine g_iload hC dL_law_1890 0 rfl ?_
      refine g_i2l hC dL_law_1892 ?_
      refine g_lcmp hC dL_law_1893 ?_
      rw [lg_self]
      exact g_if_eq hC 1899 dL_law_1894 (by decide) (fun _ => KE) (fun c9 => absurd rfl c9)
    refine g_if_eq hC 1865 dL_law_1858 (by decide) (fun c9 => ?_) (fun c9 => ?_)
    · have e9 : zz a2 = 0 := if_pos c9
      rw [e9] at KM2
      exact g_iconst (v := 0) hC dL_law_1865 (by decide) KM2
    · have e9 : zz a2 = 1 := if_neg c9
      rw [e9] at KM2
      exact g_iconst (v := 1) hC dL_law_1861 (by decide) (g_goto hC 1866 dL_law_1862 (by decide) KM2)
  refine g_if_eq hC 1838 dL_law_1831 (by decide) (fun c9 => ?_) (fun c9 => ?_)
  · have e9 : zz a2 = 0 := if_pos c9
    rw [e9] at KM1
    exact g_iconst (v := 0) hC dL_law_1838 (by decide) KM1
  · have e9 : zz a2 = 1 := if_neg c9
    rw [e9] at KM1
    exact g_iconst (v := 1) hC dL_law_1834 (by decide) (g_goto hC 1839 dL_law_1835 (by decide) KM1)
