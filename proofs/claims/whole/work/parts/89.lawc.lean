set_option maxHeartbeats 4000000 in
theorem law_22 {X : FX} {l : Launch} {D : va_G} {cy : Nat → ClassId} {b Ln : Nat} {xs : Nat → Int32} {cells slots h : Nat} {w w2 : FW} {i a1 a2 a3 : Int32} {x m o oD : Nat} {v : Int64} {vD : UInt64} (hC : fOK X cL_law 9 RL room_1 l D cy) (hst : l.stackTraces = false) (hN : gNcX X) (hS : gScr X b Ln xs) (ho : o < oD) (s1 : vp_in (i + 1) Ln) (e1 : xs (i + 1).toNatClampNeg = a1) (s2 : vp_in (i + 2) Ln) (e2 : xs (i + 2).toNatClampNeg = a2) (s3 : vp_in (i + 3) Ln) (e3 : xs (i + 3).toNatClampNeg = a3) (hx : w.1 x = 5) (hm : w.1 m = 6) (hc1 : cells + 3 ≤ 622912) (hc2 : slots + 18 ≤ 7151591) (hK : KK22 x m a1 a2 a3 w w2)
    (k : ∀ (h' : Nat) (v' : Int64) (vD' : UInt64), h ≤ h' → gAt X (cells + 3) (slots + 18) 9 w2 h' (EE cy o oD v' vD') [(5, .int i), (4, .ref oD), (3, .ref o), (2, .ref m), (1, .ref x), (0, .ref b)] [] 2923) : gAt X cells slots 9 w h (EE cy o oD v vD) [(5, .int i), (4, .ref oD), (3, .ref o), (2, .ref m), (1, .ref x), (0, .ref b)] [] 1902 := by
  obtain ⟨rx, w1, b9, hF1, hF2, hv⟩ := hK
  refine g_aload_n hC dL_law_1902 rfl 4 rfl ?_
  refine g_callVR hC hst (rv := some (.int rx)) [] (c_X4_day l D cy x w _ hF1) q_371 q_132 q_368 q_369 q_370 h9_X4_day (T := TX4) (N := 15) (ci := 4) rfl hx ⟨Nat.le_of_ble_eq_true rfl, Nat.le_of_ble_eq_true rfl⟩ ⟨by show _ + 1 ≤ 622912; omega, by show _ + 6 ≤ 7151591; omega⟩ (Nat.le_of_ble_eq_true rfl) rfl dL_law_1903 (fun h1 hh1 hs1 => ?_)
  refine g_cs (cells + 1) (slots + 6) rfl rfl ?_
  refine g_aload_n hC dL_law_1906 rfl 3 rfl ?_
  refine g_callV hC (rv := some (.int b9)) [] (c_X5_day l D cy m w1 _ hF2) q_1617 q_137 q_1614 q_1615 q_1616 h9_X5_day (T := TX5) (N := 23) (ci := 5) rfl (fSm.k hs1 hm) ⟨Nat.le_of_ble_eq_true rfl, Nat.le_of_ble_eq_true rfl⟩ ⟨by show _ + 0 ≤ 622912; omega, by show _ + 0 ≤ 7151591; omega⟩ (Nat.le_of_ble_eq_true rfl) rfl dL_law_1907 (fun h2 hh2 hs2 => ?_)
  refine g_cs (cells + 1) (slots + 6) rfl rfl ?_
  refine g_icmp_eq hC 2923 dL_law_1910 (by decide) (fun _ => ?_) (fun c9 => absurd hv c9)
  refine g_widen (k' := cells + 3) (s' := slots + 18) (by omega) (by omega) ?_
  exact k _ _ _ (by omega)
set_option maxHeartbeats 4000000 in
theorem law_23 {X : FX} {l : Launch} {D : va_G} {cy : Nat → ClassId} {b Ln : Nat} {xs : Nat → Int32} {cells slots h : Nat} {w w2 : FW} {i a1 a2 a3 : Int32} {x m o oD : Nat} {v : Int64} {vD : UInt64} (hC : fOK X cL_law 9 RL room_1 l D cy) (hst : l.stackTraces = false) (hN : gNcX X) (hS : gScr X b Ln xs) (ho : o < oD) (s1 : vp_in (i + 1) Ln) (e1 : xs (i + 1).toNatClampNeg = a1) (s2 : vp_in (i + 2) Ln) (e2 : xs (i + 2).toNatClampNeg = a2) (s3 : vp_in (i + 3) Ln) (e3 : xs (i + 3).toNatClampNeg = a3) (hx : w.1 x = 5) (hm : w.1 m = 6) (hc1 : cells + 3 ≤ 622912) (hc2 : slots + 18 ≤ 7151591) (hK : KK23 x m a1 a2 a3 w w2)
    (k : ∀ (h' : Nat) (v' : Int64) (vD' : UInt64), h ≤ h' → gAt X (cells + 3) (slots + 18) 9 w2 h' (EE cy o oD v' vD') [(5, .int i), (4, .ref oD), (3, .ref o), (2, .ref m), (1, .ref x), (0, .ref b)] [] 2923) : gAt X cells slots 9 w h (EE cy o oD v vD) [(5, .int i), (4, .ref oD), (3, .ref o), (2, .ref m), (1, .ref x), (0, .ref b)] [] 1915 := by
  obtain ⟨rx, b9, t, hF1, hF2, hF3, hes, ht, hv⟩ := hK
  refine g_aload_n hC dL_law_1915 rfl 4 rfl ?_
  refine g_aload_n hC dL_law_1916 rfl 5 rfl ?_
  refine g_iload hC dL_law_1917 0 rfl ?_
  refine g_iconst (v := 1) hC dL_law_1919 (by decide) ?_
  refine g_iadd hC dL_law_1920 ?_
  refine g_sald hC hS s1 e1 dL_law_1921 ?_
  refine g_aload_n hC dL_law_1922 rfl 2 rfl ?_
  refine g_callW hC hst [.ref x, .int a1, .ref o] hN (c_L_daysLeft l D cy x a1 o w v rx hF1 hx hes) q_976 q_131 q_974 q_975 h9_L_daysLeft ⟨Nat.le_of_ble_eq_true rfl, Nat.le_of_ble_eq_true rfl⟩ ⟨by show _ + 2 ≤ 622912; omega, by show _ + 12 ≤ 7151591; omega⟩ (Nat.le_of_ble_eq_true rfl) (gE2_b _ _ ho) rfl dL_law_1923 (fun h1 hh1 hs1 => ?_)
  refine g_cs (cells + 2) (slots + 12) rfl rfl ?_
  refine g_nm h1 (gE2 o (some (.inl (wO rx (arrV (cy 5) 1 (fun _ => .long v)) (fun v => arrV (cy 5) 1 (fun _ => .long v.toInt64))))) oD (some (.inl (arrV (cy 6) 1 (fun _ => .double vD))))) w [(5, .int i), (4, .ref oD), (3, .ref o), (2, .ref m), (1, .ref x), (0, .ref b)] rfl (gE2_upb _ _ _ ho).symm rfl rfl ?_
  refine g_istore (L' := [(6, .int (wK [2, 5] rx)), (5, .int i), (4, .ref oD), (3, .ref o), (2, .ref m), (1, .ref x), (0, .ref b)]) hC dL_law_1926 (by decide) rfl ?_
  refine g_aload_n hC dL_law_1928 rfl 4 rfl ?_
  refine g_aload_n hC dL_law_1929 rfl 6 rfl ?_
  refine g_iload hC dL_law_1930 1 rfl ?_
  refine g_iconst (v := 1) hC dL_law_1932 (by decide) ?_
  refine g_iadd hC dL_law_1933 ?_
  refine g_sald hC hS s1 e1 dL_law_1934 ?_
  refine g_callV hC (rv := some (.int b9)) [.int a1] (c_X5_daysLeft l D cy m a1 w _ hF2) q_1625 q_137 q_1622 q_1623 q_1624 h9_X5_daysLeft (T := TX5) (N := 23) (ci := 5) rfl (fSm.k hs1 hm) ⟨Nat.le_of_ble_eq_true rfl, Nat.le_of_ble_eq_true rfl⟩ ⟨by show _ + 0 ≤ 622912; omega, by show _ + 0 ≤ 7151591; omega⟩ (Nat.le_of_ble_eq_true rfl) rfl dL_law_1935 (fun h2 hh2 hs2 => ?_)
  refine g_cs (cells + 2) (slots + 12) rfl rfl ?_
  refine g_istore (L' := [(7, .int b9), (6, .int (wK [2, 5] rx)), (5, .int i), (4, .ref oD), (3, .ref o), (2, .ref m), (1, .ref x), (0, .ref b)]) hC dL_law_1938 (by decide) rfl ?_
  refine g_aload_n hC dL_law_1940 rfl 5 rfl ?_
  refine g_callV hC (rv := some (.int t)) [] (c_X5_thrown l D cy m w2 _ hF3) q_1332 q_137 q_1329 q_1330 q_1331 h9_X5_thrown (T := TX5) (N := 23) (ci := 5) rfl (fSm.k (fSm.tr hs2 hs1) hm) ⟨Nat.le_of_ble_eq_true rfl, Nat.le_of_ble_eq_true rfl⟩ ⟨by show _ + 0 ≤ 622912; omega, by show _ + 0 ≤ 7151591; omega⟩ (Nat.le_of_ble_eq_true rfl) rfl dL_law_1941 (fun h3 hh3 hs3 => ?_)
  refine g_cs (cells + 2) (slots + 12) rfl rfl ?_
  refine g_iload hC dL_law_1944 1 rfl ?_
  refine g_icmp_eq hC 1951 dL_law_1946 (by decide) (fun _ => ?_) (fun c9 => absurd ht c9)
  refine g_iload hC dL_law_1951 1 rfl ?_
  have KE : gAt X (cells + 2) (slots + 12) 9 w2 h3 (gE2 o (some (.inl (wO rx (arrV (cy 5) 1 (fun _ => .long v)) (fun v => arrV (cy 5) 1 (fun _ => .long v.toInt64))))) oD (some (.inl (arrV (cy 6) 1 (fun _ => .double vD))))) [(7, .int b9), (6, .int (wK [2, 5] rx)), (5, .int i), (4, .ref oD), (3, .ref o), (2, .ref m), (1, .ref x), (0, .ref b)] [] 1968 := by
    refine g_goto hC 2923 dL_law_1968 (by decide) ?_
    refine g_sub (L' := [(5, .int i), (4, .ref oD), (3, .ref o), (2, .ref m), (1, .ref x), (0, .ref b)]) [2, 3, 4, 5, 6, 7] rfl ?_
    refine g_widen (k' := cells + 3) (s' := slots + 18) (by omega) (by omega) ?_
    cases rx with
    | inl u => exact k _ _ _ (by omega)
    | inr e => exact k _ _ _ (by omega)
  refine g_if_ne hC 1968 dL_law_1953 (by decide) (fun _ => KE) (fun c9 => ?_)
  obtain ⟨u, rfl⟩ := wK_0 (by decide) hes c9
  obtain rfl := hv u rfl
  refine g_aload_n hC dL_law_1956 rfl 4 rfl ?_
  refine g_iconst (v := 0) hC dL_law_1957 (by decide) ?_
  refine g_laldE (v := u.toInt64) hC (gE2_b _ _ ho) dL_law_1958 ?_
  refine g_iload hC dL_law_1959 0 rfl ?_
  refine g_i2l hC dL_law_1961 ?_
  refine g_lcmp hC dL_law_1962 ?_
  rw [lg_self]
  exact g_if_eq hC 1968 dL_law_1963 (by decide) (fun _ => KE) (fun c9 => absurd rfl c9)
set_option maxHeartbeats 4000000 in
theorem law_24 {X : FX} {l : Launch} {D : va_G} {cy : Nat → ClassId} {b Ln : Nat} {xs : Nat → Int32} {cells slots h : Nat} {w w2 : FW} {i a1 a2 a3 : Int32} {x m o oD : Nat} {v : Int64} {vD : UInt64} (hC : fOK X cL_law 9 RL room_1 l D cy) (hst : l.stackTraces = false) (hN : gNcX X) (hS : gScr X b Ln xs) (ho : o < oD) (s1 : vp_in (i + 1) Ln) (e1 : xs (i + 1).toNatClampNeg = a1) (s2 : vp_in (i + 2) Ln) (e2 : xs (i + 2).toNatClampNeg = a2) (s3 : vp_in (i + 3) Ln) (e3 : xs (i + 3).toNatClampNeg = a3) (hx : w.1 x = 5) (hm : w.1 m = 6) (hc1 : cells + 3 ≤ 622912) (hc2 : slots + 18 ≤ 7151591) (hK : KK24 x m a1 a2 a3 w w2)
    (k : ∀ (h' : Nat) (v' : Int64) (vD' : UInt64), h ≤ h' → gAt X (cells + 3) (slots + 18) 9 w2 h' (EE cy o oD v' vD') [(5, .int i), (4, .ref oD), (3, .ref o), (2, .ref m), (1, .ref x), (0, .ref b)] [] 2923) : gAt X cells slots 9 w h (EE cy o oD v vD) [(5, .int i), (4, .ref oD), (3, .ref o), (2, .ref m), (1, .ref x), (0, .ref b)] [] 1971 := by
  obtain ⟨rx, b9, hF1, hF2, hv⟩ := hK
  refine g_aload_n hC dL_law_1971 rfl 4 rfl ?_
  refine g_callV hC (rv := some (.int rx)) [] (c_X4_words l D cy x w _ hF1) q_512 q_132 q_509 q_510 q_511 h9_X4_words (T := TX4) (N := 15) (ci := 4) rfl hx ⟨Nat.le_of_ble_eq_true rfl, Nat.le_of_ble_eq_true rfl⟩ ⟨by show _ + 0 ≤ 622912; omega, by show _ + 0 ≤ 7151591; omega⟩ (Nat.le_of_ble_eq_true rfl) rfl dL_law_1972 (fun h1 hh1 hs1 => ?_)
  refine g_cs cells slots rfl rfl ?_
  refine g_aload_n hC dL_law_1975 rfl 3 rfl ?_
  refine g_callV hC (rv := some (.int b9)) [] (c_X5_words l D cy m w _ hF2) q_1629 q_137 q_1626 q_1627 q_1628 h9_X5_words (T := TX5) (N := 23) (ci := 5) rfl (fSm.k hs1 hm) ⟨Nat.le_of_ble_eq_true rfl, Nat.le_of_ble_eq_true rfl⟩ ⟨by show _ + 0 ≤ 622912; omega, by show _ + 0 ≤ 7151591; omega⟩ (Nat.le_of_ble_eq_true rfl) rfl dL_law_1976 (fun h2 hh2 hs2 => ?_)
  refine g_cs cells slots rfl rfl ?_
  refine g_icmp_eq hC 2923 dL_law_1979 (by decide) (fun _ => ?_) (fun c9 => absurd hv c9)
  refine g_widen (k' := cells + 3) (s' := slots + 18) (by omega) (by omega) ?_
  exact k _ _ _ (by omega)
set_option maxHeartbeats 4000000 in
theorem law_25 {X : FX} {l : Launch} {D : va_G} {cy : Nat → ClassId} {b Ln : Nat} {xs : Nat → Int32} {cells slots h : Nat} {w w2 : FW} {i a1 a2 a3 : Int32} {x m o oD : Nat} {v : Int64} {vD : UInt64} (hC : fOK X cL_law 9 RL room_1 l D cy) (hst : l.stackTraces = false) (hN : gNcX X) (hS : gScr X b Ln xs) (ho : o < oD) (s1 : vp_in (i + 1) Ln) (e1 : xs (i + 1).toNatClampNeg = a1) (s2 : vp_in (i + 2) Ln) (e2 : xs (i + 2).toNatClampNeg = a2) (s3 : vp_in (i + 3) Ln) (e3 : xs (i + 3).toNatClampNeg = a3) (hx : w.1 x = 5) (hm : w.1 m = 6) (hc1 : cells + 3 ≤ 622912) (hc2 : slots + 18 ≤ 7151591) (hK : KK25 x m a1 a2 a3 w w2)
    (k : ∀ (h' : Nat) (v' : Int64) (vD' : UInt64), h ≤ h' → gAt X (cells + 3) (slots + 18) 9 w2 h' (EE cy o oD v' vD') [(5, .int i), (4, .ref oD), (3, .ref o), (2, .ref m), (1, .ref x), (0, .ref b)] [] 2923) : gAt X cells slots 9 w h (EE cy o oD v vD) [(5, .int i), (4, .ref oD), (3, .ref o), (2, .ref m), (1, .ref x), (0, .ref b)] [] 1984 := by
  obtain ⟨rx, b9, t, hF1, hF2, hF3, hes, ht, hv⟩ := hK
  refine g_aload_n hC dL_law_1984 rfl 4 rfl ?_
  refine g_aload_n hC dL_law_1985 rfl 5 rfl ?_
  refine g_iload hC dL_law_1986 0 rfl ?_
  refine g_iconst (v := 1) hC dL_law_1988 (by decide) ?_
  refine g_iadd hC dL_law_1989 ?_
  refine g_sald hC hS s1 e1 dL_law_1990 ?_
  refine g_aload_n hC dL_law_1991 rfl 2 rfl ?_
  refine g_callW hC hst [.ref x, .int a1, .ref o] hN (c_L_sharing l D cy x a1 o w v rx hF1 hx hes) q_985 q_131 q_983 q_984 h9_L_sharing ⟨Nat.le_of_ble_eq_true rfl, Nat.le_of_ble_eq_true rfl⟩ ⟨by show _ + 1 ≤ 622912; omega, by show _ + 6 ≤ 7151591; omega⟩ (Nat.le_of_ble_eq_true rfl) (gE2_b _ _ ho) rfl dL_law_1992 (fun h1 hh1 hs1 => ?_)
  refine g_cs (cells + 1) (slots + 6) rfl rfl ?_
  refine g_nm h1 (gE2 o (some (.inl (wO rx (arrV (cy 5) 1 (fun _ => .long v)) (fun v => arrV (cy 5) 1 (fun _ => .long v.toInt64))))) oD (some (.inl (arrV (cy 6) 1 (fun _ => .double vD))))) w [(5, .int i), (4, .ref oD), (3, .ref o), (2, .ref m), (1, .ref x), (0, .ref b)] rfl (gE2_upb _ _ _ ho).symm rfl rfl ?_
  refine g_istore (L' := [(6, .int (wK [2] rx)), (5, .int i), (4, .ref oD), (3, .ref o), (2, .ref m), (1, .ref x), (0, .ref b)]) hC dL_law_1995 (by decide) rfl ?_
  refine g_aload_n hC dL_law_1997 rfl 4 rfl ?_
  refine g_aload_n hC dL_law_1998 rfl 6 rfl ?_
  refine g_iload hC dL_law_1999 1 rfl ?_
  refine g_iconst (v := 1) hC dL_law_2001 (by decide) ?_
  refine g_iadd hC dL_law_2002 ?_
  refine g_sald hC hS s1 e1 dL_law_2003 ?_
  refine g_callV hC (rv := some (.int b9)) [.int a1] (c_X5_sharing l D cy m a1 w _ hF2) q_1637 q_137 q_1634 q_1635 q_1636 h9_X5_sharing (T := TX5) (N := 23) (ci := 5) rfl (fSm.k hs1 hm) ⟨Nat.le_of_ble_eq_true rfl, Nat.le_of_ble_eq_true rfl⟩ ⟨by show _ + 0 ≤ 622912; omega, by show _ + 0 ≤ 7151591; omega⟩ (Nat.le_of_ble_eq_true rfl) rfl dL_law_2004 (fun h2 hh2 hs2 => ?_)
  refine g_cs (cells + 1) (slots + 6) rfl rfl ?_
  refine g_istore (L' := [(7, .int b9), (6, .int (wK [2] rx)), (5, .int i), (4, .ref oD), (3, .ref o), (2, .ref m), (1, .ref x), (0, .ref b)]) hC dL_law_2007 (by decide) rfl ?_
  refine g_aload_n hC dL_law_2009 rfl 5 rfl ?_
  refine g_callV hC (rv := some (.int t)) [] (c_X5_thrown l D cy m w2 _ hF3) q_1332 q_137 q_1329 q_1330 q_1331 h9_X5_thrown (T := TX5) (N := 23) (ci := 5) rfl (fSm.k (fSm.tr hs2 hs1) hm) ⟨Nat.le_of_ble_eq_true rfl, Nat.le_of_ble_eq_true rfl⟩ ⟨by show _ + 0 ≤ 622912; omega, by show _ + 0 ≤ 7151591; omega⟩ (Nat.le_of_ble_eq_true rfl) rfl dL_law_2010 (fun h3 hh3 hs3 => ?_)
  refine g_cs (cells + 1) (slots + 6) rfl rfl ?_
  refine g_iload hC dL_law_2013 1 rfl ?_
  refine g_icmp_eq hC 2020 dL_law_2015 (by decide) (fun _ => ?_) (fun c9 => absurd ht c9)
  refine g_iload hC dL_law_2020 1 rfl ?_
  have KE : gAt X (cells + 1) (slots + 6) 9 w2 h3 (gE2 o (some (.inl (wO rx (arrV (cy 5) 1 (fun _ => .long v)) (fun v => arrV (cy 5) 1 (fun _ => .long v.toInt64))))) oD (some (.inl (arrV (cy 6) 1 (fun _ => .double vD))))) [(7, .int b9), (6, .int (wK [2] rx)), (5, .int i), (4, .ref oD), (3, .ref o), (2, .ref m), (1, .ref x), (0, .ref b)] [] 2037 := by
    refine g_goto hC 2923 dL_law_2037 (by decide) ?_
    refine g_sub (L' := [(5, .int i), (4, .ref oD), (3, .ref o), (2, .ref m), (1, .ref x), (0, .ref b)]) [2, 3, 4, 5, 6, 7] rfl ?_
    refine g_widen (k' := cells + 3) (s' := slots + 18) (by omega) (by omega) ?_
    cases rx with
    | inl u => exact k _ _ _ (by omega)
    | inr e => exact k _ _ _ (by omega)
  refine g_if_ne hC 2037 dL_law_2022 (by decide) (fun _ => KE) (fun c9 => ?_)
  obtain ⟨u, rfl⟩ := wK_0 (by decide) hes c9
  obtain rfl := hv u rfl
  refine g_aload_n hC dL_law_2025 rfl 4 rfl ?_
  refine g_iconst (v := 0) hC dL_law_2026 (by decide) ?_
  refine g_laldE (v := u.toInt64) hC (gE2_b _ _ ho) dL_law_2027 ?_
  refine g_iload hC dL_law_2028 0 rfl ?_
  refine g_i2l hC dL_law_2030 ?_
  refine g_lcmp hC dL_law_2031 ?_
  rw [lg_self]
  exact g_if_eq hC 2037 dL_law_2032 (by decide) (fun _ => KE) (fun c9 => absurd rfl c9)
set_option maxHeartbeats 4000000 in
theorem law_26 {X : FX} {l : Launch} {D : va_G} {cy : Nat → ClassId} {b Ln : Nat} {xs : Nat → Int32} {cells slots h : Nat} {w w2 : FW} {i a1 a2 a3 : Int32} {x m o oD : Nat} {v : Int64} {vD : UInt64} (hC : fOK X cL_law 9 RL room_1 l D cy) (hst : l.stackTraces = false) (hN : gNcX X) (hS : gScr X b Ln xs) (ho : o < oD) (s1 : vp_in (i + 1) Ln) (e1 : xs (i + 1).toNatClampNeg = a1) (s2 : vp_in (i + 2) Ln) (e2 : xs (i + 2).toNatClampNeg = a2) (s3 : vp_in (i + 3) Ln) (e3 : xs (i + 3).toNatClampNeg = a3) (hx : w.1 x = 5) (hm : w.1 m = 6) (hc1 : cells + 3 ≤ 622912) (hc2 : slots + 18 ≤ 7151591) (hK : KK26 x m a1 a2 a3 w w2)
    (k : ∀ (h' : Nat) (v' : Int64) (vD' : UInt64), h ≤ h' → gAt X (cells + 3) (slots + 18) 9 w2 h' (EE cy o oD v' vD') [(5, .int i), (4, .ref oD), (3, .ref o), (2, .ref m), (1, .ref x), (0, .ref b)] [] 2923) : gAt X cells slots 9 w h (EE cy o oD v vD) [(5, .int i), (4, .ref oD), (3, .ref o), (2, .ref m), (1, .ref x), (0, .ref b)] [] 2040 := by
  obtain ⟨rx, b9, t, hF1, hF2, hF3, hes, ht, hv⟩ := hK
  refine g_aload_n hC dL_law_2040 rfl 4 rfl ?_
  refine g_aload_n hC dL_law_2041 rfl 5 rfl ?_
  refine g_iload hC dL_law_2042 0 rfl ?_
  refine g_iconst (v := 1) hC dL_law_2044 (by decide) ?_
  refine g_iadd hC dL_law_2045 ?_
  refine g_sald hC hS s1 e1 dL_law_2046 ?_
  refine g_i2c hC dL_law_2047 ?_
  refine g_aload_n hC dL_law_2048 rfl 2 rfl ?_
  refine g_callW hC hst [.ref x, .int (fch a1), .ref o] hN (c_L_often l D cy x (fch a1) o w v rx hF1 hx hes) q_993 q_131 q_991 q_992 h9_L_often ⟨Nat.le_of_ble_eq_true rfl, Nat.le_of_ble_eq_true rfl⟩ ⟨by show _ + 1 ≤ 622912; omega, by show _ + 6 ≤ 7151591; omega⟩ (Nat.le_of_ble_eq_true rfl) (gE2_b _ _ ho) rfl dL_law_2049 (fun h1 hh1 hs1 => ?_)
  refine g_cs (cells + 1) (slots + 6) rfl rfl ?_
  refine g_nm h1 (gE2 o (some (.inl (wO rx (arrV (cy 5) 1 (fun _ => .long v)) (fun v => arrV (cy 5) 1 (fun _ => .long v.toInt64))))) oD (some (.inl (arrV (cy 6) 1 (fun _ => .double vD))))) w [(5, .int i), (4, .ref oD), (3, .ref o), (2, .ref m), (1, .ref x), (0, .ref b)] rfl (gE2_upb _ _ _ ho).symm rfl rfl ?_
  refine g_istore (L' := [(6, .int (wK [1] rx)), (5, .int i), (4, .ref oD), (3, .ref o), (2, .ref m), (1, .ref x), (0, .ref b)]) hC dL_law_2052 (by decide) rfl ?_
  refine g_aload_n hC dL_law_2054 rfl 4 rfl ?_
  refine g_aload_n hC dL_law_2055 rfl 6 rfl ?_
  refine g_iload hC dL_law_2056 1 rfl ?_
  refine g_iconst (v := 1) hC dL_law_2058 (by decide) ?_
  refine g_iadd hC dL_law_2059 ?_
  refine g_sald hC hS s1 e1 dL_law_2060 ?_
  refine g_i2c hC dL_law_2061 ?_
  refine g_callV hC (rv := some (.int b9)) [.int (fch a1)] (c_X5_often l D cy m (fch a1) w _ hF2) q_1641 q_137 q_1638 q_1639 q_1640 h9_X5_often (T := TX5) (N := 23) (ci := 5) rfl (fSm.k hs1 hm) ⟨Nat.le_of_ble_eq_true rfl, Nat.le_of_ble_eq_true rfl⟩ ⟨by show _ + 0 ≤ 622912; omega, by show _ + 0 ≤ 7151591; omega⟩ (Nat.le_of_ble_eq_true rfl) rfl dL_law_2062 (fun h2 hh2 hs2 => ?_)
  refine g_cs (cells + 1) (slots + 6) rfl rfl ?_
  refine g_istore (L' := [(7, .int b9), (6, .int (wK [1] rx)), (5, .int i), (4, .ref oD), (3, .ref o), (2, .ref m), (1, .ref x), (0, .ref b)]) hC dL_law_2065 (by decide) rfl ?_
  refine g_aload_n hC dL_law_2067 rfl 5 rfl ?_
  refine g_callV hC (rv := some (.int t)) [] (c_X5_thrown l D cy m w2 _ hF3) q_1332 q_137 q_1329 q_1330 q_1331 h9_X5_thrown (T := TX5) (N := 23) (ci := 5) rfl (fSm.k (fSm.tr hs2 hs1) hm) ⟨Nat.le_of_ble_eq_true rfl, Nat.le_of_ble_eq_true rfl⟩ ⟨by show _ + 0 ≤ 622912; omega, by show _ + 0 ≤ 7151591; omega⟩ (Nat.le_of_ble_eq_true rfl) rfl dL_law_2068 (fun h3 hh3 hs3 => ?_)
  refine g_cs (cells + 1) (slots + 6) rfl rfl ?_
  refine g_iload hC dL_law_2071 1 rfl ?_
  refine g_icmp_eq hC 2078 dL_law_2073 (by decide) (fun _ => ?_) (fun c9 => absurd ht c9)
  refine g_iload hC dL_law_2078 1 rfl ?_
  have KE : gAt X (cells + 1) (slots + 6) 9 w2 h3 (gE2 o (some (.inl (wO rx (arrV (cy 5) 1 (fun _ => .long v)) (fun v => arrV (cy 5) 1 (fun _ => .long v.toInt64))))) oD (some (.inl (arrV (cy 6) 1 (fun _ => .double vD))))) [(7, .int b9), (6, .int (wK [1] rx)), (5, .int i), (4, .ref oD), (3, .ref o), (2, .ref m), (1, .ref x), (0, .ref b)] [] 2095 := by
    refine g_goto hC 2923 dL_law_2095 (by decide) ?_
    refine g_sub (L' := [(5, .int i), (4, .ref oD), (3, .ref o), (2, .ref m), (1, .ref x), (0, .ref b)]) [2, 3, 4, 5, 6, 7] rfl ?_
    refine g_widen (k' := cells + 3) (s' := slots + 18) (by omega) (by omega) ?_
    cases rx with
    | inl u => exact k _ _ _ (by omega)
    | inr e => exact k _ _ _ (by omega)
  refine g_if_ne hC 2095 dL_law_2080 (by decide) (fun _ => KE) (fun c9 => ?_)
  obtain ⟨u, rfl⟩ := wK_0 (by decide) hes c9
  obtain rfl := hv u rfl
  refine g_aload_n hC dL_law_2083 rfl 4 rfl ?_
  refine g_iconst (v := 0) hC dL_law_2084 (by decide) ?_
  refine g_laldE (v := u.toInt64) hC (gE2_b _ _ ho) dL_law_2085 ?_
  refine g_iload hC dL_law_2086 0 rfl ?_
  refine g_i2l hC dL_law_2088 ?_
  refine g_lcmp hC dL_law_2089 ?_
  rw [lg_self]
  exact g_if_eq hC 2095 dL_law_2090 (by decide) (fun _ => KE) (fun c9 => absurd rfl c9)
set_option maxHeartbeats 4000000 in
theorem law_27 {X : FX} {l : Launch} {D : va_G} {cy : Nat → ClassId} {b Ln : Nat} {xs : Nat → Int32} {cells slots h : Nat} {w w2 : FW} {i a1 a2 a3 : Int32} {x m o oD : Nat} {v : Int64} {vD : UInt64} (hC : fOK X cL_law 9 RL room_1 l D cy) (hst : l.stackTraces = false) (hN : gNcX X) (hS : gScr X b Ln xs) (ho : o < oD) (s1 : vp_in (i + 1) Ln) (e1 : xs (i + 1).toNatClampNeg = a1) (s2 : vp_in (i + 2) Ln) (e2 : xs (i + 2).toNatClampNeg = a2) (s3 : vp_in (i + 3) Ln) (e3 : xs (i + 3).toNatClampNeg = a3) (hx : w.1 x = 5) (hm : w.1 m = 6) (hc1 : cells + 3 ≤ 622912) (hc2 : slots + 18 ≤ 7151591) (hK : KK27 x m a1 a2 a3 w w2)
    (k : ∀ (h' : Nat) (v' : Int64) (vD' : UInt64), h ≤ h' → gAt X (cells + 3) (slots + 18) 9 w2 h' (EE cy o oD v' vD') [(5, .int i), (4, .ref oD), (3, .ref o), (2, .ref m), (1, .ref x), (0, .ref b)] [] 2923) : gAt X cells slots 9 w h (EE cy o oD v vD) [(5, .int i), (4, .ref oD), (3, .ref o), (2, .ref m), (1, .ref x), (0, .ref b)] [] 2098 := by
  obtain ⟨rx, b9, t, hF1, hF2, hF3, hes, ht, hv⟩ := hK
  refine g_aload_n hC dL_law_2098 rfl 4 rfl ?_
  refine g_aload_n hC dL_law_2099 rfl 5 rfl ?_
  refine g_iload hC dL_law_2100 0 rfl ?_
  refine g_iconst (v := 1) hC dL_law_2102 (by decide) ?_
  refine g_iadd hC dL_law_2103 ?_
  refine g_sald hC hS s1 e1 dL_law_2104 ?_
  refine g_aload_n hC dL_law_2105 rfl 5 rfl ?_
  refine g_iload hC dL_law_2106 0 rfl ?_
  refine g_iconst (v := 2) hC dL_law_2108 (by decide) ?_
  refine g_iadd hC dL_law_2109 ?_
  refine g_sald hC hS s2 e2 dL_law_2110 ?_
  refine g_aload_n hC dL_law_2111 rfl 2 rfl ?_
  refine g_callW hC hst [.ref x, .int a1, .int a2, .ref o] hN (c_L_ranked l D cy x a1 a2 o w v rx hF1 hx hes) q_1005 q_131 q_1003 q_1004 h9_L_ranked ⟨Nat.le_of_ble_eq_true rfl, Nat.le_of_ble_eq_true rfl⟩ ⟨by show _ + 1 ≤ 622912; omega, by show _ + 6 ≤ 7151591; omega⟩ (Nat.le_of_ble_eq_true rfl) (gE2_b _ _ ho) rfl dL_law_2112 (fun h1 hh1 hs1 => ?_)
  refine g_cs (cells + 1) (slots + 6) rfl rfl ?_
  refine g_nm h1 (gE2 o (some (.inl (wO rx (arrV (cy 5) 1 (fun _ => .long v)) (fun v => arrV (cy 5) 1 (fun _ => .long v.toInt64))))) oD (some (.inl (arrV (cy 6) 1 (fun _ => .double vD))))) w [(5, .int i), (4, .ref oD), (3, .ref o), (2, .ref m), (1, .ref x), (0, .ref b)] rfl (gE2_upb _ _ _ ho).symm rfl rfl ?_
  refine g_istore (L' := [(6, .int (wK [1, 5] rx)), (5, .int i), (4, .ref oD), (3, .ref o), (2, .ref m), (1, .ref x), (0, .ref b)]) hC dL_law_2115 (by decide) rfl ?_
  refine g_aload_n hC dL_law_2117 rfl 4 rfl ?_
  refine g_aload_n hC dL_law_2118 rfl 6 rfl ?_
  refine g_iload hC dL_law_2119 1 rfl ?_
  refine g_iconst (v := 1) hC dL_law_2121 (by decide) ?_
  refine g_iadd hC dL_law_2122 ?_
  refine g_sald hC hS s1 e1 dL_law_2123 ?_
  refine g_aload_n hC dL_law_2124 rfl 6 rfl ?_
  refine g_iload hC dL_law_2125 1 rfl ?_
  refine g_iconst (v := 2) hC dL_law_2127 (by decide) ?_
  refine g_iadd hC dL_law_2128 ?_
  refine g_sald hC hS s2 e2 dL_law_2129 ?_
  refine g_callV hC (rv := some (.int b9)) [.int a1, .int a2] (c_X5_ranked l D cy m a1 a2 w _ hF2) q_1645 q_137 q_1642 q_1643 q_1644 h9_X5_ranked (T := TX5) (N := 23) (ci := 5) rfl (fSm.k hs1 hm) ⟨Nat.le_of_ble_eq_true rfl, Nat.le_of_ble_eq_true rfl⟩ ⟨by show _ + 0 ≤ 622912; omega, by show _ + 0 ≤ 7151591; omega⟩ (Nat.le_of_ble_eq_true rfl) rfl dL_law_2130 (fun h2 hh2 hs2 => ?_)
  refine g_cs (cells + 1) (slots + 6) rfl rfl ?_
  refine g_istore (L' := [(7, .int b9), (6, .int (wK [1, 5] rx)), (5, .int i), (4, .ref oD), (3, .ref o), (2, .ref m), (1, .ref x), (0, .ref b)]) hC dL_law_2133 (by decide) rfl ?_
  refine g_aload_n hC dL_law_2135 rfl 5 rfl ?_
  refine g_callV hC (rv := some (.int t)) [] (c_X5_thrown l D cy m w2 _ hF3) q_1332 q_137 q_1329 q_1330 q_1331 h9_X5_thrown (T := TX5) (N := 23) (ci := 5) rfl (fSm.k (fSm.tr hs2 hs1) hm) ⟨Nat.le_of_ble_eq_true rfl, Nat.le_of_ble_eq_true rfl⟩ ⟨by show _ + 0 ≤ 622912; omega, by show _ + 0 ≤ 7151591; omega⟩ (Nat.le_of_ble_eq_true rfl) rfl dL_law_2136 (fun h3 hh3 hs3 => ?_)
  refine g_cs (cells + 1) (slots + 6) rfl rfl ?_
  refine g_iload hC dL_law_2139 1 rfl ?_
  refine g_icmp_eq hC 2146 dL_law_2141 (by decide) (fun _ => ?_) (fun c9 => absurd ht c9)
  refine g_iload hC dL_law_2146 1 rfl ?_
  have KE : gAt X (cells + 1) (slots + 6) 9 w2 h3 (gE2 o (some (.inl (wO rx (arrV (cy 5) 1 (fun _ => .long v)) (fun v => arrV (cy 5) 1 (fun _ => .long v.toInt64))))) oD (some (.inl (arrV (cy 6) 1 (fun _ => .double vD))))) [(7, .int b9), (6, .int (wK [1, 5] rx)), (5, .int i), (4, .ref oD), (3, .ref o), (2, .ref m), (1, .ref x), (0, .ref b)] [] 2163 := by
    refine g_goto hC 2923 dL_law_2163 (by decide) ?_
    refine g_sub (L' := [(5, .int i), (4, .ref oD), (3, .ref o), (2, .ref m), (1, .ref x), (0, .ref b)]) [2, 3, 4, 5, 6, 7] rfl ?_
    refine g_widen (k' := cells + 3) (s' := slots + 18) (by omega) (by omega) ?_
    cases rx with
    | inl u => exact k _ _ _ (by omega)
    | inr e => exact k _ _ _ (by omega)
  refine g_if_ne hC 2163 dL_law_2148 (by decide) (fun _ => KE) (fun c9 => ?_)
  obtain ⟨u, rfl⟩ := wK_0 (by decide) hes c9
  obtain rfl := hv u rfl
  refine g_aload_n hC dL_law_2151 rfl 4 rfl ?_
  refine g_iconst (v := 0) hC dL_law_2152 (by decide) ?_
  refine g_laldE (v := u.toInt64) hC (gE2_b _ _ ho) dL_law_2153 ?_
  refine g_iload hC dL_law_2154 0 rfl ?_
  refine g_i2l hC dL_law_2156 ?_
  refine g_lcmp hC dL_law_2157 ?_
  rw [lg_self]
  exact g_if_eq hC 2163 dL_law_2158 (by decide) (fun _ => KE) (fun c9 => absurd rfl c9)
set_option maxHeartbeats 4000000 in
theorem law_28 {X : FX} {l : Launch} {D : va_G} {cy : Nat → ClassId} {b Ln : Nat} {xs : Nat → Int32} {cells slots h : Nat} {w w2 : FW} {i a1 a2 a3 : Int32} {x m o oD : Nat} {v : Int64} {vD : UInt64} (hC : fOK X cL_law 9 RL room_1 l D cy) (hst : l.stackTraces = false) (hN : gNcX X) (hS : gScr X b Ln xs) (ho : o < oD) (s1 : vp_in (i + 1) Ln) (e1 : xs (i + 1).toNatClampNeg = a1) (s2 : vp_in (i + 2) Ln) (e2 : xs (i + 2).toNatClampNeg = a2) (s3 : vp_in (i + 3) Ln) (e3 : xs (i + 3).toNatClampNeg = a3) (hx : w.1 x = 5) (hm : w.1 m = 6) (hc1 : cells + 3 ≤ 622912) (hc2 : slots + 18 ≤ 7151591) (hK : KK28 x m a1 a2 a3 w w2)
    (k : ∀ (h' : Nat) (v' : Int64) (vD' : UInt64), h ≤ h' → gAt X (cells + 3) (slots + 18) 9 w2 h' (EE cy o oD v' vD') [(5, .int i), (4, .ref oD), (3, .ref o), (2, .ref m), (1, .ref x), (0, .ref b)] [] 2923) : gAt X cells slots 9 w h (EE cy o oD v vD) [(5, .int i), (4, .ref oD), (3, .ref o), (2, .ref m), (1, .ref x), (0, .ref b)] [] 2166 := by
  obtain ⟨rx, b9, hF1, hF2, hv⟩ := hK
  refine g_aload_n hC dL_law_2166 rfl 4 rfl ?_
  refine g_callV hC (rv := some (.int rx)) [] (c_X4_isRight l D cy x w _ hF1) q_532 q_132 q_529 q_530 q_531 h9_X4_isRight (T := TX4) (N := 15) (ci := 4) rfl hx ⟨Nat.le_of_ble_eq_true rfl, Nat.le_of_ble_eq_true rfl⟩ ⟨by show _ + 0 ≤ 622912; omega, by show _ + 0 ≤ 7151591; omega⟩ (Nat.le_of_ble_eq_true rfl) rfl dL_law_2167 (fun h1 hh1 hs1 => ?_)
  refine g_cs cells slots rfl rfl ?_
  refine g_aload_n hC dL_law_2170 rfl 3 rfl ?_
  refine g_callV hC (rv := some (.int b9)) [] (c_X5_isRight l D cy m w _ hF2) q_1653 q_137 q_1650 q_1651 q_1652 h9_X5_isRight (T := TX5) (N := 23) (ci := 5) rfl (fSm.k hs1 hm) ⟨Nat.le_of_ble_eq_true rfl, Nat.le_of_ble_eq_true rfl⟩ ⟨by show _ + 0 ≤ 622912; omega, by show _ + 0 ≤ 7151591; omega⟩ (Nat.le_of_ble_eq_true rfl) rfl dL_law_2171 (fun h2 hh2 hs2 => ?_)
  refine g_cs cells slots rfl rfl ?_
  refine g_icmp_eq hC 2923 dL_law_2174 (by decide) (fun _ => ?_) (fun c9 => absurd hv c9)
  refine g_widen (k' := cells + 3) (s' := slots + 18) (by omega) (by omega) ?_
  exact k _ _ _ (by omega)
set_option maxHeartbeats 4000000 in
theorem law_29 {X : FX} {l : Launch} {D : va_G} {cy : Nat → ClassId} {b Ln : Nat} {xs : Nat → Int32} {cells slots h : Nat} {w w2 : FW} {i a1 a2 a3 : Int32} {x m o oD : Nat} {v : Int64} {vD : UInt64} (hC : fOK X cL_law 9 RL room_1 l D cy) (hst : l.stackTraces = false) (hN : gNcX X) (hS : gScr X b Ln xs) (ho : o < oD) (s1 : vp_in (i + 1) Ln) (e1 : xs (i + 1).toNatClampNeg = a1) (s2 : vp_in (i + 2) Ln) (e2 : xs (i + 2).toNatClampNeg = a2) (s3 : vp_in (i + 3) Ln) (e3 : xs (i + 3).toNatClampNeg = a3) (hx : w.1 x = 5) (hm : w.1 m = 6) (hc1 : cells + 3 ≤ 622912) (hc2 : slots + 18 ≤ 7151591) (hK : KK29 x m a1 a2 a3 w w2)
    (k : ∀ (h' : Nat) (v' : Int64) (vD' : UInt64), h ≤ h' → gAt X (cells + 3) (slots + 18) 9 w2 h' (EE cy o oD v' vD') [(5, .int i), (4, .ref oD), (3, .ref o), (2, .ref m), (1, .ref x), (0, .ref b)] [] 2923) : gAt X cells slots 9 w h (EE cy o oD v vD) [(5, .int i), (4, .ref oD), (3, .ref o), (2, .ref m), (1, .ref x), (0, .ref b)] [] 2179 := by
  obtain ⟨rx, w1, b9, t, hF1, hF2, hF3, hes, ht, hv⟩ := hK
  refine g_aload_n hC dL_law_2179 rfl 4 rfl ?_
  refine g_aload_n hC dL_law_2180 rfl 5 rfl ?_
  refine g_iload hC dL_law_2181 0 rfl ?_
  refine g_iconst (v := 1) hC dL_law_2183 (by decide) ?_
  refine g_iadd hC dL_law_2184 ?_
  refine g_sald hC hS s1 e1 dL_law_2185 ?_
  refine g_aload_n hC dL_law_2186 rfl 2 rfl ?_
  refine g_callW hC hst [.ref x, .int a1, .ref o] hN (c_L_line l D cy x a1 o w w1 v rx hF1 hx hes) q_1031 q_131 q_1029 q_1030 h9_L_line ⟨Nat.le_of_ble_eq_true rfl, Nat.le_of_ble_eq_true rfl⟩ ⟨by show _ + 1 ≤ 622912; omega, by show _ + 6 ≤ 7151591; omega⟩ (Nat.le_of_ble_eq_true rfl) (gE2_b _ _ ho) rfl dL_law_2187 (fun h1 hh1 hs1 => ?_)
  refine g_cs (cells + 1) (slots + 6) rfl rfl ?_
  refine g_nm h1 (gE2 o (some (.inl (wO rx (arrV (cy 5) 1 (fun _ => .long v)) (fun v => arrV (cy 5) 1 (fun _ => .long v.toInt64))))) oD (some (.inl (arrV (cy 6) 1 (fun _ => .double vD))))) w1 [(5, .int i), (4, .ref oD), (3, .ref o), (2, .ref m), (1, .ref x), (0, .ref b)] rfl (gE2_upb _ _ _ ho).symm rfl rfl ?_
  refine g_istore (L' := [(6, .int (wK [2] rx)), (5, .int i), (4, .ref oD), (3, .ref o), (2, .ref m), (1, .ref x), (0, .ref b)]) hC dL_law_2190 (by decide) rfl ?_
  refine g_aload_n hC dL_law_2192 rfl 4 rfl ?_
  refine g_aload_n hC dL_law_2193 rfl 6 rfl ?_
  refine g_iload hC dL_law_2194 1 rfl ?_
  refine g_iconst (v := 1) hC dL_law_2196 (by decide) ?_
  refine g_iadd hC dL_law_2197 ?_
  refine g_sald hC hS s1 e1 dL_law_2198 ?_
  refine g_callV hC (rv := some (.int b9)) [.int a1] (c_X5_line l D cy m a1 w1 _ hF2) q_1657 q_137 q_1654 q_1655 q_1656 h9_X5_line (T := TX5) (N := 23) (ci := 5) rfl (fSm.k hs1 hm) ⟨Nat.le_of_ble_eq_true rfl, Nat.le_of_ble_eq_true rfl⟩ ⟨by show _ + 0 ≤ 622912; omega, by show _ + 0 ≤ 7151591; omega⟩ (Nat.le_of_ble_eq_true rfl) rfl dL_law_2199 (fun h2 hh2 hs2 => ?_)
  refine g_cs (cells + 1) (slots + 6) rfl rfl ?_
  refine g_istore (L' := [(7, .int b9), (6, .int (wK [2] rx)), (5, .int i), (4, .ref oD), (3, .ref o), (2, .ref m), (1, .ref x), (0, .ref b)]) hC dL_law_2202 (by decide) rfl ?_
  refine g_aload_n hC dL_law_2204 rfl 5 rfl ?_
  refine g_callV hC (rv := some (.int t)) [] (c_X5_thrown l D cy m w2 _ hF3) q_1332 q_137 q_1329 q_1330 q_1331 h9_X5_thrown (T := TX5) (N := 23) (ci := 5) rfl (fSm.k (fSm.tr hs2 hs1) hm) ⟨Nat.le_of_ble_eq_true rfl, Nat.le_of_ble_eq_true rfl⟩ ⟨by show _ + 0 ≤ 622912; omega, by show _ + 0 ≤ 7151591; omega⟩ (Nat.le_of_ble_eq_true rfl) rfl dL_law_2205 (fun h3 hh3 hs3 => ?_)
  refine g_cs (cells + 1) (slots + 6) rfl rfl ?_
  refine g_iload hC dL_law_2208 1 rfl ?_
  refine g_icmp_eq hC 2215 dL_law_2210 (by decide) (fun _ => ?_) (fun c9 => absurd ht c9)
  refine g_iload hC dL_law_2215 1 rfl ?_
  have KE : gAt X (cells + 1) (slots + 6) 9 w2 h3 (gE2 o (some (.inl (wO rx (arrV (cy 5) 1 (fun _ => .long v)) (fun v => arrV (cy 5) 1 (fun _ => .long v.toInt64))))) oD (some (.inl (arrV (cy 6) 1 (fun _ => .double vD))))) [(7, .int b9), (6, .int (wK [2] rx)), (5, .int i), (4, .ref oD), (3, .ref o), (2, .ref m), (1, .ref x), (0, .ref b)] [] 2232 := by
    refine g_goto hC 2923 dL_law_2232 (by decide) ?_
    refine g_sub (L' := [(5, .int i), (4, .ref oD), (3, .ref o), (2, .ref m), (1, .ref x), (0, .ref b)]) [2, 3, 4, 5, 6, 7] rfl ?_
    refine g_widen (k' := cells + 3) (s' := slots + 18) (by omega) (by omega) ?_
    cases rx with
    | inl u => exact k _ _ _ (by omega)
    | inr e => exact k _ _ _ (by omega)
  refine g_if_ne hC 2232 dL_law_2217 (by decide) (fun _ => KE) (fun c9 => ?_)
  obtain ⟨u, rfl⟩ := wK_0 (by decide) hes c9
  obtain rfl := hv u rfl
  refine g_aload_n hC dL_law_2220 rfl 4 rfl ?_
  refine g_iconst (v := 0) hC dL_law_2221 (by decide) ?_
  refine g_laldE (v := u.toInt64) hC (gE2_b _ _ ho) dL_law_2222 ?_
  refine g_iload hC dL_law_2223 0 rfl ?_
  refine g_i2l hC dL_law_2225 ?_
  refine g_lcmp hC dL_law_2226 ?_
  rw [lg_self]
  exact g_if_eq hC 2232 dL_law_2227 (by decide) (fun _ => KE) (fun c9 => absurd rfl c9)
set_option maxHeartbeats 4000000 in
theorem law_30 {X : FX} {l : Launch} {D : va_G} {cy : Nat → ClassId} {b Ln : Nat} {xs : Nat → Int32} {cells slots h : Nat} {w w2 : FW} {i a1 a2 a3 : Int32} {x m o oD : Nat} {v : Int64} {vD : UInt64} (hC : fOK X cL_law 9 RL room_1 l D cy) (hst : l.stackTraces = false) (hN : gNcX X) (hS : gScr X b Ln xs) (ho : o < oD) (s1 : vp_in (i + 1) Ln) (e1 : xs (i + 1).toNatClampNeg = a1) (s2 : vp_in (i + 2) Ln) (e2 : xs (i + 2).toNatClampNeg = a2) (s3 : vp_in (i + 3) Ln) (e3 : xs (i + 3).toNatClampNeg = a3) (hx : w.1 x = 5) (hm : w.1 m = 6) (hc1 : cells + 3 ≤ 622912) (hc2 : slots + 18 ≤ 7151591) (hK : KK30 x m a1 a2 a3 w w2)
    (k : ∀ (h' : Nat) (v' : Int64) (vD' : UInt64), h ≤ h' → gAt X (cells + 3) (slots + 18) 9 w2 h' (EE cy o oD v' vD') [(5, .int i), (4, .ref oD), (3, .ref o), (2, .ref m), (1, .ref x), (0, .ref b)] [] 2923) : gAt X cells slots 9 w h (EE cy o oD v vD) [(5, .int i), (4, .ref oD), (3, .ref o), (2, .ref m), (1, .ref x), (0, .ref b)] [] 2235 := by
  obtain ⟨rx, w1, b9, t, hF1, hF2, hF3, hes, ht, hv⟩ := hK
  refine g_aload_n hC dL_law_2235 rfl 4 rfl ?_
  refine g_aload_n hC dL_law_2236 rfl 5 rfl ?_
  refine g_iload hC dL_law_2237 0 rfl ?_
  refine g_iconst (v := 1) hC dL_law_2239 (by decide) ?_
  refine g_iadd hC dL_law_2240 ?_
  refine g_sald hC hS s1 e1 dL_law_2241 ?_
  refine g_aload_n hC dL_law_2242 rfl 5 rfl ?_
  refine g_iload hC dL_law_2243 0 rfl ?_
  refine g_iconst (v := 2) hC dL_law_2245 (by decide) ?_
  refine g_iadd hC dL_law_2246 ?_
  refine g_sald hC hS s2 e2 dL_law_2247 ?_
  have KM1 : gAt X cells slots 9 w h (EE cy o oD v vD) [(5, .int i), (4, .ref oD), (3, .ref o), (2, .ref m), (1, .ref x), (0, .ref b)] [.int (zz a2), .int a1, .ref x] 2256 := by
    refine g_aload_n hC dL_law_2256 rfl 2 rfl ?_
    refine g_callW hC hst [.ref x, .int a1, .int (zz a2), .ref o] hN (c_L_holeLine l D cy x a1 (zz a2) o w w1 v rx hF1 hx hes) q_1049 q_131 q_1047 q_1048 h9_L_holeLine ⟨Nat.le_of_ble_eq_true rfl, Nat.le_of_ble_eq_true rfl⟩ ⟨by show _ + 2 ≤ 622912; omega, by show _ + 12 ≤ 7151591; omega⟩ (Nat.le_of_ble_eq_true rfl) (gE2_b _ _ ho) rfl dL_law_2257 (fun h1 hh1 hs1 => ?_)
    refine g_cs (cells + 2) (slots + 12) rfl rfl ?_
    refine g_nm h1 (gE2 o (some (.inl (wO rx (arrV (cy 5) 1 (fun _ => .long v)) (fun v => arrV (cy 5) 1 (fun _ => .long v.toInt64))))) oD (some (.inl (arrV (cy 6) 1 (fun _ => .double vD))))) w1 [(5, .int i), (4, .ref oD), (3, .ref o), (2, .ref m), (1, .ref x), (0, .ref b)] rfl (gE2_upb _ _ _ ho).symm rfl rfl ?_
    refine g_istore (L' := [(6, .int (wK [2, 5] rx)), (5, .int i), (4, .ref oD), (3, .ref o), (2, .ref m), (1, .ref x), (0, .ref b)]) hC dL_law_2260 (by decide) rfl ?_
    refine g_aload_n hC dL_law_2262 rfl 4 rfl ?_
    refine g_aload_n hC dL_law_2263 rfl 6 rfl ?_
    refine g_iload hC dL_law_2264 1 rfl ?_
    refine g_iconst (v := 1) hC dL_law_2266 (by decide) ?_
    refine g_iadd hC dL_law_2267 ?_
    refine g_sald hC hS s1 e1 dL_law_2268 ?_
    refine g_aload_n hC dL_law_2269 rfl 6 rfl ?_
    refine g_iload hC dL_law_2270 1 rfl ?_
    refine g_iconst (v := 2) hC dL_law_2272 (by decide) ?_
    refine g_iadd hC dL_law_2273 ?_
    refine g_sald hC hS s2 e2 dL_law_2274 ?_
    have KM2 : gAt X (cells + 2) (slots + 12) 9 w1 h1 (gE2 o (some (.inl (wO rx (arrV (cy 5) 1 (fun _ => .long v)) (fun v => arrV (cy 5) 1 (fun _ => .long v.toInt64))))) oD (some (.inl (arrV (cy 6) 1 (fun _ => .double vD))))) [(6, .int (wK [2, 5] rx)), (5, .int i), (4, .ref oD), (3, .ref o), (2, .ref m), (1, .ref x), (0, .ref b)] [.int (zz a2), .int a1, .ref m] 2283 := by
      refine g_callV hC (rv := some (.int b9)) [.int a1, .int (zz a2)] (c_X5_holeLine l D cy m a1 (zz a2) w1 _ hF2) q_1669 q_137 q_1666 q_1667 q_1668 h9_X5_holeLine (T := TX5) (N := 23) (ci := 5) rfl (fSm.k hs1 hm) ⟨Nat.le_of_ble_eq_true rfl, Nat.le_of_ble_eq_true rfl⟩ ⟨by show _ + 0 ≤ 622912; omega, by show _ + 0 ≤ 7151591; omega⟩ (Nat.le_of_ble_eq_true rfl) rfl dL_law_2283 (fun h2 hh2 hs2 => ?_)
      refine g_cs (cells + 2) (slots + 12) rfl rfl ?_
      refine g_istore (L' := [(7, .int b9), (6, .int (wK [2, 5] rx)), (5, .int i), (4, .ref oD), (3, .ref o), (2, .ref m), (1, .ref x), (0, .ref b)]) hC dL_law_2286 (by decide) rfl ?_
      refine g_aload_n hC dL_law_2288 rfl 5 rfl ?_
      refine g_callV hC (rv := some (.int t)) [] (c_X5_thrown l D cy m w2 _ hF3) q_1332 q_137 q_1329 q_1330 q_1331 h9_X5_thrown (T := TX5) (N := 23) (ci := 5) rfl (fSm.k (fSm.tr hs2 hs1) hm) ⟨Nat.le_of_ble_eq_true rfl, Nat.le_of_ble_eq_true rfl⟩ ⟨by show _ + 0 ≤ 622912; omega, by show _ + 0 ≤ 7151591; omega⟩ (Nat.le_of_ble_eq_true rfl) rfl dL_law_2289 (fun h3 hh3 hs3 => ?_)
      refine g_cs (cells + 2) (slots + 12) rfl rfl ?_
      refine g_iload hC dL_law_2292 1 rfl ?_
      refine g_icmp_eq hC 2299 dL_law_2294 (by decide) (fun _ => ?_) (fun c9 => absurd ht c9)
      refine g_iload hC dL_law_2299 1 rfl ?_
      have KE : gAt X (cells + 2) (slots + 12) 9 w2 h3 (gE2 o (some (.inl (wO rx (arrV (cy 5) 1 (fun _ => .long v)) (fun v => arrV (cy 5) 1 (fun _ => .long v.toInt64))))) oD (some (.inl (arrV (cy 6) 1 (fun _ => .double vD))))) [(7, .int b9), (6, .int (wK [2, 5] rx)), (5, .int i), (4, .ref oD), (3, .ref o), (2, .ref m), (1, .ref x), (0, .ref b)] [] 2316 := by
        refine g_goto hC 2923 dL_law_2316 (by decide) ?_
        refine g_sub (L' := [(5, .int i), (4, .ref oD), (3, .ref o), (2, .ref m), (1, .ref x), (0, .ref b)]) [2, 3, 4, 5, 6, 7] rfl ?_
        refine g_widen (k' := cells + 3) (s' := slots + 18) (by omega) (by omega) ?_
        cases rx with
        | inl u => exact k _ _ _ (by omega)
        | inr e => exact k _ _ _ (by omega)
      refine g_if_ne hC 2316 dL_law_2301 (by decide) (fun _ => KE) (fun c9 => ?_)
      obtain ⟨u, rfl⟩ := wK_0 (by decide) hes c9
      obtain rfl := hv u rfl
      refine g_aload_n hC dL_law_2304 rfl 4 rfl ?_
      refine g_iconst (v := 0) hC dL_law_2305 (by decide) ?_
      refine g_laldE (v := u.toInt64) hC (gE2_b _ _ ho) dL_law_2306 ?_
      refine g_iload hC dL_law_2307 0 rfl ?_
      refine g_i2l hC dL_law_2309 ?_
      refine g_lcmp hC dL_law_2310 ?_
      rw [lg_self]
      exact g_if_eq hC 2316 dL_law_2311 (by decide) (fun _ => KE) (fun c9 => absurd rfl c9)
    refine g_if_eq hC 2282 dL_law_2275 (by decide) (fun c9 => ?_) (fun c9 => ?_)
    · have e9 : zz a2 = 0 := if_pos c9
      rw [e9] at KM2
      exact g_iconst (v := 0) hC dL_law_2282 (by decide) KM2
    · have e9 : zz a2 = 1 := if_neg c9
      rw [e9] at KM2
      exact g_iconst (v := 1) hC dL_law_2278 (by decide) (g_goto hC 2283 dL_law_2279 (by decide) KM2)
  refine g_if_eq hC 2255 dL_law_2248 (by decide) (fun c9 => ?_) (fun c9 => ?_)
  · have e9 : zz a2 = 0 := if_pos c9
    rw [e9] at KM1
    exact g_iconst (v := 0) hC dL_law_2255 (by decide) KM1
  · have e9 : zz a2 = 1 := if_neg c9
    rw [e9] at KM1
    exact g_iconst (v := 1) hC dL_law_2251 (by decide) (g_goto hC 2256 dL_law_2252 (by decide) KM1)
set_option maxHeartbeats 4000000 in
theorem law_31 {X : FX} {l : Launch} {D : va_G} {cy : Nat → ClassId} {b Ln : Nat} {xs : Nat → Int32} {cells slots h : Nat} {w w2 : FW} {i a1 a2 a3 : Int32} {x m o oD : Nat} {v : Int64} {vD : UInt64} (hC : fOK X cL_law 9 RL room_1 l D cy) (hst : l.stackTraces = false) (hN : gNcX X) (hS : gScr X b Ln xs) (ho : o < oD) (s1 : vp_in (i + 1) Ln) (e1 : xs (i + 1).toNatClampNeg = a1) (s2 : vp_in (i + 2) Ln) (e2 : xs (i + 2).toNatClampNeg = a2) (s3 : vp_in (i + 3) Ln) (e3 : xs (i + 3).toNatClampNeg = a3) (hx : w.1 x = 5) (hm : w.1 m = 6) (hc1 : cells + 3 ≤ 622912) (hc2 : slots + 18 ≤ 7151591) (hK : KK31 x m a1 a2 a3 w w2)
    (k : ∀ (h' : Nat) (v' : Int64) (vD' : UInt64), h ≤ h' → gAt X (cells + 3) (slots + 18) 9 w2 h' (EE cy o oD v' vD') [(5, .int i), (4, .ref oD), (3, .ref o), (2, .ref m), (1, .ref x), (0, .ref b)] [] 2923) : gAt X cells slots 9 w h (EE cy o oD v vD) [(5, .int i), (4, .ref oD), (3, .ref o), (2, .ref m), (1, .ref x), (0, .ref b)] [] 2319 := by
  obtain ⟨rx, b9, t, hF1, hF2, hF3, hes, ht, hv⟩ := hK
  refine g_aload_n hC dL_law_2319 rfl 4 rfl ?_
  refine g_aload_n hC dL_law_2320 rfl 5 rfl ?_
  refine g_iload hC dL_law_2321 0 rfl ?_
  refine g_iconst (v := 1) hC dL_law_2323 (by decide) ?_
  refine g_iadd hC dL_law_2324 ?_
  refine g_sald hC hS s1 e1 dL_law_2325 ?_
  refine g_aload_n hC dL_law_2326 rfl 2 rfl ?_
  refine g_callW hC hst [.ref x, .int a1, .ref o] hN (c_L_character l D cy x a1 o w v rx hF1 hx hes) q_1057 q_131 q_1055 q_1056 h9_L_character ⟨Nat.le_of_ble_eq_true rfl, Nat.le_of_ble_eq_true rfl⟩ ⟨by show _ + 1 ≤ 622912; omega, by show _ + 6 ≤ 7151591; omega⟩ (Nat.le_of_ble_eq_true rfl) (gE2_b _ _ ho) rfl dL_law_2327 (fun h1 hh1 hs1 => ?_)
  refine g_cs (cells + 1) (slots + 6) rfl rfl ?_
  refine g_nm h1 (gE2 o (some (.inl (wO rx (arrV (cy 5) 1 (fun _ => .long v)) (fun v => arrV (cy 5) 1 (fun _ => .long v.toInt64))))) oD (some (.inl (arrV (cy 6) 1 (fun _ => .double vD))))) w [(5, .int i), (4, .ref oD), (3, .ref o), (2, .ref m), (1, .ref x), (0, .ref b)] rfl (gE2_upb _ _ _ ho).symm rfl rfl ?_
  refine g_istore (L' := [(6, .int (wK [2] rx)), (5, .int i), (4, .ref oD), (3, .ref o), (2, .ref m), (1, .ref x), (0, .ref b)]) hC dL_law_2330 (by decide) rfl ?_
  refine g_aload_n hC dL_law_2332 rfl 4 rfl ?_
  refine g_aload_n hC dL_law_2333 rfl 6 rfl ?_
  refine g_iload hC dL_law_2334 1 rfl ?_
  refine g_iconst (v := 1) hC dL_law_2336 (by decide) ?_
  refine g_iadd hC dL_law_2337 ?_
  refine g_sald hC hS s1 e1 dL_law_2338 ?_
  refine g_callV hC (rv := some (.int b9)) [.int a1] (c_X5_character l D cy m a1 w _ hF2) q_1673 q_137 q_1670 q_1671 q_1672 h9_X5_character (T := TX5) (N := 23) (ci := 5) rfl (fSm.k hs1 hm) ⟨Nat.le_of_ble_eq_true rfl, Nat.le_of_ble_eq_true rfl⟩ ⟨by show _ + 0 ≤ 622912; omega, by show _ + 0 ≤ 7151591; omega⟩ (Nat.le_of_ble_eq_true rfl) rfl dL_law_2339 (fun h2 hh2 hs2 => ?_)
  refine g_cs (cells + 1) (slots + 6) rfl rfl ?_
  refine g_istore (L' := [(7, .int b9), (6, .int (wK [2] rx)), (5, .int i), (4, .ref oD), (3, .ref o), (2, .ref m), (1, .ref x), (0, .ref b)]) hC dL_law_2342 (by decide) rfl ?_
  refine g_aload_n hC dL_law_2344 rfl 5 rfl ?_
  refine g_callV hC (rv := some (.int t)) [] (c_X5_thrown l D cy m w2 _ hF3) q_1332 q_137 q_1329 q_1330 q_1331 h9_X5_thrown (T := TX5) (N := 23) (ci := 5) rfl (fSm.k (fSm.tr hs2 hs1) hm) ⟨Nat.le_of_ble_eq_true rfl, Nat.le_of_ble_eq_true rfl⟩ ⟨by show _ + 0 ≤ 622912; omega, by show _ + 0 ≤ 7151591; omega⟩ (Nat.le_of_ble_eq_true rfl) rfl dL_law_2345 (fun h3 hh3 hs3 => ?_)
  refine g_cs (cells + 1) (slots + 6) rfl rfl ?_
  refine g_iload hC dL_law_2348 1 rfl ?_
  refine g_icmp_eq hC 2355 dL_law_2350 (by decide) (fun _ => ?_) (fun c9 => absurd ht c9)
  refine g_iload hC dL_law_2355 1 rfl ?_
  have KE : gAt X (cells + 1) (slots + 6) 9 w2 h3 (gE2 o (some (.inl (wO rx (arrV (cy 5) 1 (fun _ => .long v)) (fun v => arrV (cy 5) 1 (fun _ => .long v.toInt64))))) oD (some (.inl (arrV (cy 6) 1 (fun _ => .double vD))))) [(7, .int b9), (6, .int (wK [2] rx)), (5, .int i), (4, .ref oD), (3, .ref o), (2, .ref m), (1, .ref x), (0, .ref b)] [] 2372 := by
    refine g_goto hC 2923 dL_law_2372 (by decide) ?_
    refine g_sub (L' := [(5, .int i), (4, .ref oD), (3, .ref o), (2, .ref m), (1, .ref x), (0, .ref b)]) [2, 3, 4, 5, 6, 7] rfl ?_
    refine g_widen (k' := cells + 3) (s' := slots + 18) (by omega) (by omega) ?_
    cases rx with
    | inl u => exact k _ _ _ (by omega)
    | inr e => exact k _ _ _ (by omega)
  refine g_if_ne hC 2372 dL_law_2357 (by decide) (fun _ => KE) (fun c9 => ?_)
  obtain ⟨u, rfl⟩ := wK_0 (by decide) hes c9
  obtain rfl := hv u rfl
  refine g_aload_n hC dL_law_2360 rfl 4 rfl ?_
  refine g_iconst (v := 0) hC dL_law_2361 (by decide) ?_
  refine g_laldE (v := u.toInt64) hC (gE2_b _ _ ho) dL_law_2362 ?_
  refine g_iload hC dL_law_2363 0 rfl ?_
  refine g_i2l hC dL_law_2365 ?_
  refine g_lcmp hC dL_law_2366 ?_
  rw [lg_self]
  exact g_if_eq hC 2372 dL_law_2367 (by decide) (fun _ => KE) (fun c9 => absurd rfl c9)
set_option maxHeartbeats 4000000 in
theorem law_32 {X : FX} {l : Launch} {D : va_G} {cy : Nat → ClassId} {b Ln : Nat} {xs : Nat → Int32} {cells slots h : Nat} {w w2 : FW} {i a1 a2 a3 : Int32} {x m o oD : Nat} {v : Int64} {vD : UInt64} (hC : fOK X cL_law 9 RL room_1 l D cy) (hst : l.stackTraces = false) (hN : gNcX X) (hS : gScr X b Ln xs) (ho : o < oD) (s1 : vp_in (i + 1) Ln) (e1 : xs (i + 1).toNatClampNeg = a1) (s2 : vp_in (i + 2) Ln) (e2 : xs (i + 2).toNatClampNeg = a2) (s3 : vp_in (i + 3) Ln) (e3 : xs (i + 3).toNatClampNeg = a3) (hx : w.1 x = 5) (hm : w.1 m = 6) (hc1 : cells + 3 ≤ 622912) (hc2 : slots + 18 ≤ 7151591) (hK : KK32 x m a1 a2 a3 w w2)
    (k : ∀ (h' : Nat) (v' : Int64) (vD' : UInt64), h ≤ h' → gAt X (cells + 3) (slots + 18) 9 w2 h' (EE cy o oD v' vD') [(5, .int i), (4, .ref oD), (3, .ref o), (2, .ref m), (1, .ref x), (0, .ref b)] [] 2923) : gAt X cells slots 9 w h (EE cy o oD v vD) [(5, .int i), (4, .ref oD), (3, .ref o), (2, .ref m), (1, .ref x), (0, .ref b)] [] 2375 := by
  obtain ⟨rx, b9, t, hF1, hF2, hF3, hes, ht, hv⟩ := hK
  refine g_aload_n hC dL_law_2375 rfl 4 rfl ?_
  refine g_aload_n hC dL_law_2376 rfl 5 rfl ?_
  refine g_iload hC dL_law_2377 0 rfl ?_
  refine g_iconst (v := 1) hC dL_law_2379 (by decide) ?_
  refine g_iadd hC dL_law_2380 ?_
  refine g_sald hC hS s1 e1 dL_law_2381 ?_
  have KM1 : gAt X cells slots 9 w h (EE cy o oD v vD) [(5, .int i), (4, .ref oD), (3, .ref o), (2, .ref m), (1, .ref x), (0, .ref b)] [.int (zz a1), .ref x] 2390 := by
    refine g_aload_n hC dL_law_2390 rfl 2 rfl ?_
    refine g_callW hC hst [.ref x, .int (zz a1), .ref o] hN (c_L_refusal l D cy x (zz a1) o w v rx hF1 hx hes) q_1065 q_131 q_1063 q_1064 h9_L_refusal ⟨Nat.le_of_ble_eq_true rfl, Nat.le_of_ble_eq_true rfl⟩ ⟨by show _ + 1 ≤ 622912; omega, by show _ + 6 ≤ 7151591; omega⟩ (Nat.le_of_ble_eq_true rfl) (gE2_b _ _ ho) rfl dL_law_2391 (fun h1 hh1 hs1 => ?_)
    refine g_cs (cells + 1) (slots + 6) rfl rfl ?_
    refine g_nm h1 (gE2 o (some (.inl (wO rx (arrV (cy 5) 1 (fun _ => .long v)) (fun v => arrV (cy 5) 1 (fun _ => .long v.toInt64))))) oD (some (.inl (arrV (cy 6) 1 (fun _ => .double vD))))) w [(5, .int i), (4, .ref oD), (3, .ref o), (2, .ref m), (1, .ref x), (0, .ref b)] rfl (gE2_upb _ _ _ ho).symm rfl rfl ?_
    refine g_istore (L' := [(6, .int (wK [0] rx)), (5, .int i), (4, .ref oD), (3, .ref o), (2, .ref m), (1, .ref x), (0, .ref b)]) hC dL_law_2394 (by decide) rfl ?_
    refine g_aload_n hC dL_law_2396 rfl 4 rfl ?_
    refine g_aload_n hC dL_law_2397 rfl 6 rfl ?_
    refine g_iload hC dL_law_2398 1 rfl ?_
    refine g_iconst (v := 1) hC dL_law_2400 (by decide) ?_
    refine g_iadd hC dL_law_2401 ?_
    refine g_sald hC hS s1 e1 dL_law_2402 ?_
    have KM2 : gAt X (cells + 1) (slots + 6) 9 w h1 (gE2 o (some (.inl (wO rx (arrV (cy 5) 1 (fun _ => .long v)) (fun v => arrV (cy 5) 1 (fun _ => .long v.toInt64))))) oD (some (.inl (arrV (cy 6) 1 (fun _ => .double vD))))) [(6, .int (wK [0] rx)), (5, .int i), (4, .ref oD), (3, .ref o), (2, .ref m), (1, .ref x), (0, .ref b)] [.int (zz a1), .ref m] 2411 := by
      refine g_callV hC (rv := some (.int b9)) [.int (zz a1)] (c_X5_refusal l D cy m (zz a1) w _ hF2) q_1677 q_137 q_1674 q_1675 q_1676 h9_X5_refusal (T := TX5) (N := 23) (ci := 5) rfl (fSm.k hs1 hm) ⟨Nat.le_of_ble_eq_true rfl, Nat.le_of_ble_eq_true rfl⟩ ⟨by show _ + 0 ≤ 622912; omega, by show _ + 0 ≤ 7151591; omega⟩ (Nat.le_of_ble_eq_true rfl) rfl dL_law_2411 (fun h2 hh2 hs2 => ?_)
      refine g_cs (cells + 1) (slots + 6) rfl rfl ?_
      refine g_istore (L' := [(7, .int b9), (6, .int (wK [0] rx)), (5, .int i), (4, .ref oD), (3, .ref o), (2, .ref m), (1, .ref x), (0, .ref b)]) hC dL_law_2414 (by decide) rfl ?_
      refine g_aload_n hC dL_law_2416 rfl 5 rfl ?_
      refine g_callV hC (rv := some (.int t)) [] (c_X5_thrown l D cy m w2 _ hF3) q_1332 q_137 q_1329 q_1330 q_1331 h9_X5_thrown (T := TX5) (N := 23) (ci := 5) rfl (fSm.k (fSm.tr hs2 hs1) hm) ⟨Nat.le_of_ble_eq_true rfl, Nat.le_of_ble_eq_true rfl⟩ ⟨by show _ + 0 ≤ 622912; omega, by show _ + 0 ≤ 7151591; omega⟩ (Nat.le_of_ble_eq_true rfl) rfl dL_law_2417 (fun h3 hh3 hs3 => ?_)
      refine g_cs (cells + 1) (slots + 6) rfl rfl ?_
      refine g_iload hC dL_law_2420 1 rfl ?_
      refine g_icmp_eq hC 2427 dL_law_2422 (by decide) (fun _ => ?_) (fun c9 => absurd ht c9)
      refine g_iload hC dL_law_2427 1 rfl ?_
      have KE : gAt X (cells + 1) (slots + 6) 9 w2 h3 (gE2 o (some (.inl (wO rx (arrV (cy 5) 1 (fun _ => .long v)) (fun v => arrV (cy 5) 1 (fun _ => .long v.toInt64))))) oD (some (.inl (arrV (cy 6) 1 (fun _ => .double vD))))) [(7, .int b9), (6, .int (wK [0] rx)), (5, .int i), (4, .ref oD), (3, .ref o), (2, .ref m), (1, .ref x), (0, .ref b)] [] 2444 := by
        refine g_goto hC 2923 dL_law_2444 (by decide) ?_
        refine g_sub (L' := [(5, .int i), (4, .ref oD), (3, .ref o), (2, .ref m), (1, .ref x), (0, .ref b)]) [2, 3, 4, 5, 6, 7] rfl ?_
        refine g_widen (k' := cells + 3) (s' := slots + 18) (by omega) (by omega) ?_
        cases rx with
        | inl u => exact k _ _ _ (by omega)
        | inr e => exact k _ _ _ (by omega)
      refine g_if_ne hC 2444 dL_law_2429 (by decide) (fun _ => KE) (fun c9 => ?_)
      obtain ⟨u, rfl⟩ := wK_0 (by decide) hes c9
      obtain rfl := hv u rfl
      refine g_aload_n hC dL_law_2432 rfl 4 rfl ?_
      refine g_iconst (v := 0) hC dL_law_2433 (by decide) ?_
      refine g_laldE (v := u.toInt64) hC (gE2_b _ _ ho) dL_law_2434 ?_
      refine g_iload hC dL_law_2435 0 rfl ?_
      refine g_i2l hC dL_law_2437 ?_
      refine g_lcmp hC dL_law_2438 ?_
      rw [lg_self]
      exact g_if_eq hC 2444 dL_law_2439 (by decide) (fun _ => KE) (fun c9 => absurd rfl c9)
    refine g_if_eq hC 2410 dL_law_2403 (by decide) (fun c9 => ?_) (fun c9 => ?_)
    · have e9 : zz a1 = 0 := if_pos c9
      rw [e9] at KM2
      exact g_iconst (v := 0) hC dL_law_2410 (by decide) KM2
    · have e9 : zz a1 = 1 := if_neg c9
      rw [e9] at KM2
      exact g_iconst (v := 1) hC dL_law_2406 (by decide) (g_goto hC 2411 dL_law_2407 (by decide) KM2)
  refine g_if_eq hC 2389 dL_law_2382 (by decide) (fun c9 => ?_) (fun c9 => ?_)
  · have e9 : zz a1 = 0 := if_pos c9
    rw [e9] at KM1
    exact g_iconst (v := 0) hC dL_law_2389 (by decide) KM1
  · have e9 : zz a1 = 1 := if_neg c9
    rw [e9] at KM1
    exact g_iconst (v := 1) hC dL_law_2385 (by decide) (g_goto hC 2390 dL_law_2386 (by decide) KM1)
