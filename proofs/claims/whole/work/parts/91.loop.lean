def KK (j : Nat) (x m : Nat) (a1 a2 a3 : Int32) (w w2 : FW) : Prop := match j with
  | 0 => KK0 x m a1 a2 a3 w w2
  | 1 => KK1 x m a1 a2 a3 w w2
  | 2 => KK2 x m a1 a2 a3 w w2
  | 3 => KK3 x m a1 a2 a3 w w2
  | 4 => KK4 x m a1 a2 a3 w w2
  | 5 => KK5 x m a1 a2 a3 w w2
  | 6 => KK6 x m a1 a2 a3 w w2
  | 7 => KK7 x m a1 a2 a3 w w2
  | 8 => KK8 x m a1 a2 a3 w w2
  | 9 => KK9 x m a1 a2 a3 w w2
  | 10 => KK10 x m a1 a2 a3 w w2
  | 11 => KK11 x m a1 a2 a3 w w2
  | 12 => KK12 x m a1 a2 a3 w w2
  | 13 => KK13 x m a1 a2 a3 w w2
  | 14 => KK14 x m a1 a2 a3 w w2
  | 15 => KK15 x m a1 a2 a3 w w2
  | 16 => KK16 x m a1 a2 a3 w w2
  | 17 => KK17 x m a1 a2 a3 w w2
  | 18 => KK18 x m a1 a2 a3 w w2
  | 19 => KK19 x m a1 a2 a3 w w2
  | 20 => KK20 x m a1 a2 a3 w w2
  | 21 => KK21 x m a1 a2 a3 w w2
  | 22 => KK22 x m a1 a2 a3 w w2
  | 23 => KK23 x m a1 a2 a3 w w2
  | 24 => KK24 x m a1 a2 a3 w w2
  | 25 => KK25 x m a1 a2 a3 w w2
  | 26 => KK26 x m a1 a2 a3 w w2
  | 27 => KK27 x m a1 a2 a3 w w2
  | 28 => KK28 x m a1 a2 a3 w w2
  | 29 => KK29 x m a1 a2 a3 w w2
  | 30 => KK30 x m a1 a2 a3 w w2
  | 31 => KK31 x m a1 a2 a3 w w2
  | 32 => KK32 x m a1 a2 a3 w w2
  | 33 => KK33 x m a1 a2 a3 w w2
  | 34 => KK34 x m a1 a2 a3 w w2
  | 35 => KK35 x m a1 a2 a3 w w2
  | 36 => KK36 x m a1 a2 a3 w w2
  | 37 => KK37 x m a1 a2 a3 w w2
  | 38 => KK38 x m a1 a2 a3 w w2
  | 39 => KK39 x m a1 a2 a3 w w2
  | 40 => KK40 x m a1 a2 a3 w w2
  | 41 => KK41 x m a1 a2 a3 w w2
  | 42 => KK42 x m a1 a2 a3 w w2
  | _ => w = w2
theorem and63 (a : Int32) : ∃ n : Nat, n < 64 ∧ (a &&& 63).toInt = (n : Int) ∧ (a &&& 63).toNatClampNeg = n := by
  have h1 : (a &&& 63).toBitVec = a.toBitVec &&& 63#32 := rfl
  have h2 : (a &&& 63).toBitVec.toNat < 64 := by
    rw [h1, BitVec.toNat_and]
    exact Nat.lt_of_le_of_lt Nat.and_le_right (by decide)
  have h3 : (a &&& 63).toInt = ((a &&& 63).toBitVec.toNat : Int) := by
    show (a &&& 63).toBitVec.toInt = _
    rw [BitVec.toInt_eq_toNat_of_lt (by omega)]
  refine ⟨(a &&& 63).toBitVec.toNat, h2, h3, ?_⟩
  show (a &&& 63).toInt.toNat = _
  rw [h3]
  rfl
theorem scr_in {n j Ln : Nat} (h : n + j < Ln) (hL : Ln ≤ 2048) : vp_in (nI n + nI j) Ln ∧ (nI n + nI j).toNatClampNeg = n + j := by
  rw [nI_add]
  have h1 := nI_clamp (n := n + j) (by omega)
  refine ⟨fun z => ?_, h1⟩
  rcases z with z | z
  · rw [Int32.lt_iff_toInt_lt, nI_toInt (by omega)] at z
    simp at z
    omega
  · omega
set_option maxHeartbeats 4000000 in
/-- one call of the script -/
theorem law_call {X : FX} {l : Launch} {D : va_G} {cy : Nat → ClassId} {b Ln : Nat} {xs : Nat → Int32} {cells slots h : Nat} {w w2 : FW} {i : Int32} {x m o oD : Nat} {v : Int64} {vD : UInt64} (hC : fOK X cL_law 9 RL room_1 l D cy) (hst : l.stackTraces = false) (hN : gNcX X) (hS : gScr X b Ln xs) (ho : o < oD) (s0 : vp_in i Ln) (s1 : vp_in (i + 1) Ln) (s2 : vp_in (i + 2) Ln) (s3 : vp_in (i + 3) Ln) (hx : w.1 x = 5) (hm : w.1 m = 6) (hc1 : cells + 3 ≤ 622912) (hc2 : slots + 18 ≤ 7151591) (hK : KK (xs i.toNatClampNeg &&& 63).toNatClampNeg x m (xs (i + 1).toNatClampNeg) (xs (i + 2).toNatClampNeg) (xs (i + 3).toNatClampNeg) w w2)
    (k : ∀ (h' : Nat) (v' : Int64) (vD' : UInt64), h ≤ h' → gAt X (cells + 3) (slots + 18) 9 w2 h' (EE cy o oD v' vD') [(5, .int i), (4, .ref oD), (3, .ref o), (2, .ref m), (1, .ref x), (0, .ref b)] [] 2923) : gAt X cells slots 9 w h (EE cy o oD v vD) [(5, .int i), (4, .ref oD), (3, .ref o), (2, .ref m), (1, .ref x), (0, .ref b)] [] 37 := by
  refine g_aload_n hC dL_law_37 rfl 5 rfl ?_
  refine g_iload hC dL_law_38 0 rfl ?_
  refine g_sald hC hS s0 rfl dL_law_40 ?_
  refine g_bipush (v := 63) hC dL_law_41 (by decide) ?_
  refine g_iand hC dL_law_43 ?_
  obtain ⟨n, h1, h2, h3⟩ := and63 (xs i.toNatClampNeg)
  rw [h3] at hK
  generalize xs i.toNatClampNeg &&& 63 = q at h2
  by_cases hn : n ≤ 42
  · rcases (show n = 0 ∨ n = 1 ∨ n = 2 ∨ n = 3 ∨ n = 4 ∨ n = 5 ∨ n = 6 ∨ n = 7 ∨ n = 8 ∨ n = 9 ∨ n = 10 ∨ n = 11 ∨ n = 12 ∨ n = 13 ∨ n = 14 ∨ n = 15 ∨ n = 16 ∨ n = 17 ∨ n = 18 ∨ n = 19 ∨ n = 20 ∨ n = 21 ∨ n = 22 ∨ n = 23 ∨ n = 24 ∨ n = 25 ∨ n = 26 ∨ n = 27 ∨ n = 28 ∨ n = 29 ∨ n = 30 ∨ n = 31 ∨ n = 32 ∨ n = 33 ∨ n = 34 ∨ n = 35 ∨ n = 36 ∨ n = 37 ∨ n = 38 ∨ n = 39 ∨ n = 40 ∨ n = 41 ∨ n = 42 by omega) with hnj | hnj | hnj | hnj | hnj | hnj | hnj | hnj | hnj | hnj | hnj | hnj | hnj | hnj | hnj | hnj | hnj | hnj | hnj | hnj | hnj | hnj | hnj | hnj | hnj | hnj | hnj | hnj | hnj | hnj | hnj | hnj | hnj | hnj | hnj | hnj | hnj | hnj | hnj | hnj | hnj | hnj | hnj
    · subst hnj
      refine g_tabIn (off := 188) hC 232 dL_law_44 (by rw [h2]; decide) (by rw [h2]; decide) (by rw [h2]; rfl) (by decide) ?_
      exact law_0 hC hst hN hS ho s1 rfl s2 rfl s3 rfl hx hm hc1 hc2 hK k
    · subst hnj
      refine g_tabIn (off := 201) hC 245 dL_law_44 (by rw [h2]; decide) (by rw [h2]; decide) (by rw [h2]; rfl) (by decide) ?_
      exact law_1 hC hst hN hS ho s1 rfl s2 rfl s3 rfl hx hm hc1 hc2 hK k
    · subst hnj
      refine g_tabIn (off := 259) hC 303 dL_law_44 (by rw [h2]; decide) (by rw [h2]; decide) (by rw [h2]; rfl) (by decide) ?_
      exact law_2 hC hst hN hS ho s1 rfl s2 rfl s3 rfl hx hm hc1 hc2 hK k
    · subst hnj
      refine g_tabIn (off := 303) hC 347 dL_law_44 (by rw [h2]; decide) (by rw [h2]; decide) (by rw [h2]; rfl) (by decide) ?_
      exact law_3 hC hst hN hS ho s1 rfl s2 rfl s3 rfl hx hm hc1 hc2 hK k
    · subst hnj
      refine g_tabIn (off := 383) hC 427 dL_law_44 (by rw [h2]; decide) (by rw [h2]; decide) (by rw [h2]; rfl) (by decide) ?_
      exact law_4 hC hst hN hS ho s1 rfl s2 rfl s3 rfl hx hm hc1 hc2 hK k
    · subst hnj
      refine g_tabIn (off := 439) hC 483 dL_law_44 (by rw [h2]; decide) (by rw [h2]; decide) (by rw [h2]; rfl) (by decide) ?_
      exact law_5 hC hst hN hS ho s1 rfl s2 rfl s3 rfl hx hm hc1 hc2 hK k
    · subst hnj
      refine g_tabIn (off := 507) hC 551 dL_law_44 (by rw [h2]; decide) (by rw [h2]; decide) (by rw [h2]; rfl) (by decide) ?_
      exact law_6 hC hst hN hS ho s1 rfl s2 rfl s3 rfl hx hm hc1 hc2 hK k
    · subst hnj
      refine g_tabIn (off := 591) hC 635 dL_law_44 (by rw [h2]; decide) (by rw [h2]; decide) (by rw [h2]; rfl) (by decide) ?_
      exact law_7 hC hst hN hS ho s1 rfl s2 rfl s3 rfl hx hm hc1 hc2 hK k
    · subst hnj
      refine g_tabIn (off := 659) hC 703 dL_law_44 (by rw [h2]; decide) (by rw [h2]; decide) (by rw [h2]; rfl) (by decide) ?_
      exact law_8 hC hst hN hS ho s1 rfl s2 rfl s3 rfl hx hm hc1 hc2 hK k
    · subst hnj
      refine g_tabIn (off := 727) hC 771 dL_law_44 (by rw [h2]; decide) (by rw [h2]; decide) (by rw [h2]; rfl) (by decide) ?_
      exact law_9 hC hst hN hS ho s1 rfl s2 rfl s3 rfl hx hm hc1 hc2 hK k
    · subst hnj
      refine g_tabIn (off := 823) hC 867 dL_law_44 (by rw [h2]; decide) (by rw [h2]; decide) (by rw [h2]; rfl) (by decide) ?_
      exact law_10 hC hst hN hS ho s1 rfl s2 rfl s3 rfl hx hm hc1 hc2 hK k
    · subst hnj
      refine g_tabIn (off := 919) hC 963 dL_law_44 (by rw [h2]; decide) (by rw [h2]; decide) (by rw [h2]; rfl) (by decide) ?_
      exact law_11 hC hst hN hS ho s1 rfl s2 rfl s3 rfl hx hm hc1 hc2 hK k
    · subst hnj
      refine g_tabIn (off := 975) hC 1019 dL_law_44 (by rw [h2]; decide) (by rw [h2]; decide) (by rw [h2]; rfl) (by decide) ?_
      exact law_12 hC hst hN hS ho s1 rfl s2 rfl s3 rfl hx hm hc1 hc2 hK k
    · subst hnj
      refine g_tabIn (off := 1059) hC 1103 dL_law_44 (by rw [h2]; decide) (by rw [h2]; decide) (by rw [h2]; rfl) (by decide) ?_
      exact law_13 hC hst hN hS ho s1 rfl s2 rfl s3 rfl hx hm hc1 hc2 hK k
    · subst hnj
      refine g_tabIn (off := 1143) hC 1187 dL_law_44 (by rw [h2]; decide) (by rw [h2]; decide) (by rw [h2]; rfl) (by decide) ?_
      exact law_14 hC hst hN hS ho s1 rfl s2 rfl s3 rfl hx hm hc1 hc2 hK k
    · subst hnj
      refine g_tabIn (off := 1239) hC 1283 dL_law_44 (by rw [h2]; decide) (by rw [h2]; decide) (by rw [h2]; rfl) (by decide) ?_
      exact law_15 hC hst hN hS ho s1 rfl s2 rfl s3 rfl hx hm hc1 hc2 hK k
    · subst hnj
      refine g_tabIn (off := 1335) hC 1379 dL_law_44 (by rw [h2]; decide) (by rw [h2]; decide) (by rw [h2]; rfl) (by decide) ?_
      exact law_16 hC hst hN hS ho s1 rfl s2 rfl s3 rfl hx hm hc1 hc2 hK k
    · subst hnj
      refine g_tabIn (off := 1426) hC 1470 dL_law_44 (by rw [h2]; decide) (by rw [h2]; decide) (by rw [h2]; rfl) (by decide) ?_
      exact law_17 hC hst hN hS ho s1 rfl s2 rfl s3 rfl hx hm hc1 hc2 hK k
    · subst hnj
      refine g_tabIn (off := 1510) hC 1554 dL_law_44 (by rw [h2]; decide) (by rw [h2]; decide) (by rw [h2]; rfl) (by decide) ?_
      exact law_18 hC hst hN hS ho s1 rfl s2 rfl s3 rfl hx hm hc1 hc2 hK k
    · subst hnj
      refine g_tabIn (off := 1606) hC 1650 dL_law_44 (by rw [h2]; decide) (by rw [h2]; decide) (by rw [h2]; rfl) (by decide) ?_
      exact law_19 hC hst hN hS ho s1 rfl s2 rfl s3 rfl hx hm hc1 hc2 hK k
    · subst hnj
      refine g_tabIn (off := 1690) hC 1734 dL_law_44 (by rw [h2]; decide) (by rw [h2]; decide) (by rw [h2]; rfl) (by decide) ?_
      exact law_20 hC hst hN hS ho s1 rfl s2 rfl s3 rfl hx hm hc1 hc2 hK k
    · subst hnj
      refine g_tabIn (off := 1774) hC 1818 dL_law_44 (by rw [h2]; decide) (by rw [h2]; decide) (by rw [h2]; rfl) (by decide) ?_
      exact law_21 hC hst hN hS ho s1 rfl s2 rfl s3 rfl hx hm hc1 hc2 hK k
    · subst hnj
      refine g_tabIn (off := 1858) hC 1902 dL_law_44 (by rw [h2]; decide) (by rw [h2]; decide) (by rw [h2]; rfl) (by decide) ?_
      exact law_22 hC hst hN hS ho s1 rfl s2 rfl s3 rfl hx hm hc1 hc2 hK k
    · subst hnj
      refine g_tabIn (off := 1871) hC 1915 dL_law_44 (by rw [h2]; decide) (by rw [h2]; decide) (by rw [h2]; rfl) (by decide) ?_
      exact law_23 hC hst hN hS ho s1 rfl s2 rfl s3 rfl hx hm hc1 hc2 hK k
    · subst hnj
      refine g_tabIn (off := 1927) hC 1971 dL_law_44 (by rw [h2]; decide) (by rw [h2]; decide) (by rw [h2]; rfl) (by decide) ?_
      exact law_24 hC hst hN hS ho s1 rfl s2 rfl s3 rfl hx hm hc1 hc2 hK k
    · subst hnj
      refine g_tabIn (off := 1940) hC 1984 dL_law_44 (by rw [h2]; decide) (by rw [h2]; decide) (by rw [h2]; rfl) (by decide) ?_
      exact law_25 hC hst hN hS ho s1 rfl s2 rfl s3 rfl hx hm hc1 hc2 hK k
    · subst hnj
      refine g_tabIn (off := 1996) hC 2040 dL_law_44 (by rw [h2]; decide) (by rw [h2]; decide) (by rw [h2]; rfl) (by decide) ?_
      exact law_26 hC hst hN hS ho s1 rfl s2 rfl s3 rfl hx hm hc1 hc2 hK k
    · subst hnj
      refine g_tabIn (off := 2054) hC 2098 dL_law_44 (by rw [h2]; decide) (by rw [h2]; decide) (by rw [h2]; rfl) (by decide) ?_
      exact law_27 hC hst hN hS ho s1 rfl s2 rfl s3 rfl hx hm hc1 hc2 hK k
    · subst hnj
      refine g_tabIn (off := 2122) hC 2166 dL_law_44 (by rw [h2]; decide) (by rw [h2]; decide) (by rw [h2]; rfl) (by decide) ?_
      exact law_28 hC hst hN hS ho s1 rfl s2 rfl s3 rfl hx hm hc1 hc2 hK k
    · subst hnj
      refine g_tabIn (off := 2135) hC 2179 dL_law_44 (by rw [h2]; decide) (by rw [h2]; decide) (by rw [h2]; rfl) (by decide) ?_
      exact law_29 hC hst hN hS ho s1 rfl s2 rfl s3 rfl hx hm hc1 hc2 hK k
    · subst hnj
      refine g_tabIn (off := 2191) hC 2235 dL_law_44 (by rw [h2]; decide) (by rw [h2]; decide) (by rw [h2]; rfl) (by decide) ?_
      exact law_30 hC hst hN hS ho s1 rfl s2 rfl s3 rfl hx hm hc1 hc2 hK k
    · subst hnj
      refine g_tabIn (off := 2275) hC 2319 dL_law_44 (by rw [h2]; decide) (by rw [h2]; decide) (by rw [h2]; rfl) (by decide) ?_
      exact law_31 hC hst hN hS ho s1 rfl s2 rfl s3 rfl hx hm hc1 hc2 hK k
    · subst hnj
      refine g_tabIn (off := 2331) hC 2375 dL_law_44 (by rw [h2]; decide) (by rw [h2]; decide) (by rw [h2]; rfl) (by decide) ?_
      exact law_32 hC hst hN hS ho s1 rfl s2 rfl s3 rfl hx hm hc1 hc2 hK k
    · subst hnj
      refine g_tabIn (off := 2403) hC 2447 dL_law_44 (by rw [h2]; decide) (by rw [h2]; decide) (by rw [h2]; rfl) (by decide) ?_
      exact law_33 hC hst hN hS ho s1 rfl s2 rfl s3 rfl hx hm hc1 hc2 hK k
    · subst hnj
      refine g_tabIn (off := 2459) hC 2503 dL_law_44 (by rw [h2]; decide) (by rw [h2]; decide) (by rw [h2]; rfl) (by decide) ?_
      exact law_34 hC hst hN hS ho s1 rfl s2 rfl s3 rfl hx hm hc1 hc2 hK k
    · subst hnj
      refine g_tabIn (off := 2524) hC 2568 dL_law_44 (by rw [h2]; decide) (by rw [h2]; decide) (by rw [h2]; rfl) (by decide) ?_
      exact law_35 hC hst hN hS ho s1 rfl s2 rfl s3 rfl hx hm hc1 hc2 hK k
    · subst hnj
      refine g_tabIn (off := 2590) hC 2634 dL_law_44 (by rw [h2]; decide) (by rw [h2]; decide) (by rw [h2]; rfl) (by decide) ?_
      exact law_36 hC hst hN hS ho s1 rfl s2 rfl s3 rfl hx hm hc1 hc2 hK k
    · subst hnj
      refine g_tabIn (off := 2646) hC 2690 dL_law_44 (by rw [h2]; decide) (by rw [h2]; decide) (by rw [h2]; rfl) (by decide) ?_
      exact law_37 hC hst hN hS ho s1 rfl s2 rfl s3 rfl hx hm hc1 hc2 hK k
    · subst hnj
      refine g_tabIn (off := 2690) hC 2734 dL_law_44 (by rw [h2]; decide) (by rw [h2]; decide) (by rw [h2]; rfl) (by decide) ?_
      exact law_38 hC hst hN hS ho s1 rfl s2 rfl s3 rfl hx hm hc1 hc2 hK k
    · subst hnj
      refine g_tabIn (off := 2734) hC 2778 dL_law_44 (by rw [h2]; decide) (by rw [h2]; decide) (by rw [h2]; rfl) (by decide) ?_
      exact law_39 hC hst hN hS ho s1 rfl s2 rfl s3 rfl hx hm hc1 hc2 hK k
    · subst hnj
      refine g_tabIn (off := 2778) hC 2822 dL_law_44 (by rw [h2]; decide) (by rw [h2]; decide) (by rw [h2]; rfl) (by decide) ?_
      exact law_40 hC hst hN hS ho s1 rfl s2 rfl s3 rfl hx hm hc1 hc2 hK k
    · subst hnj
      refine g_tabIn (off := 2822) hC 2866 dL_law_44 (by rw [h2]; decide) (by rw [h2]; decide) (by rw [h2]; rfl) (by decide) ?_
      exact law_41 hC hst hN hS ho s1 rfl s2 rfl s3 rfl hx hm hc1 hc2 hK k
    · subst hnj
      refine g_tabIn (off := 2835) hC 2879 dL_law_44 (by rw [h2]; decide) (by rw [h2]; decide) (by rw [h2]; rfl) (by decide) ?_
      exact law_42 hC hst hN hS ho s1 rfl s2 rfl s3 rfl hx hm hc1 hc2 hK k
  · have hw : w = w2 := by
      rcases (show n = 43 ∨ n = 44 ∨ n = 45 ∨ n = 46 ∨ n = 47 ∨ n = 48 ∨ n = 49 ∨ n = 50 ∨ n = 51 ∨ n = 52 ∨ n = 53 ∨ n = 54 ∨ n = 55 ∨ n = 56 ∨ n = 57 ∨ n = 58 ∨ n = 59 ∨ n = 60 ∨ n = 61 ∨ n = 62 ∨ n = 63 by omega) with rfl | rfl | rfl | rfl | rfl | rfl | rfl | rfl | rfl | rfl | rfl | rfl | rfl | rfl | rfl | rfl | rfl | rfl | rfl | rfl | rfl <;> exact hK
    subst hw
    refine g_tabOut hC 2923 dL_law_44 (Or.inr (by omega)) (by decide) ?_
    refine g_widen (k' := cells + 3) (s' := slots + 18) (by omega) (by omega) ?_
    exact k _ _ _ (Nat.le_refl _)
theorem sub4 {n : Nat} (h : n ≤ 4000) : (nI n - nI 4).toInt = (n : Int) - 4 := by
  have h1 := Int32.toInt_sub (nI n) (nI 4)
  rw [nI_toInt (by omega), nI_toInt (by omega)] at h1
  rw [h1]
  exact Int.bmod_eq_of_le (by omega) (by omega)
theorem nI_iff {n Ln : Nat} (hn : n ≤ 4000) (hL : Ln ≤ 4000) : nI n ≤ nI Ln - nI 4 ↔ n + 4 ≤ Ln := by
  rw [Int32.le_iff_toInt_le, sub4 hL, nI_toInt (by omega)]
  omega
/-- the loop -/
theorem law_loop {X : FX} {l : Launch} {D : va_G} {cy : Nat → ClassId} {b Ln : Nat} {xs : Nat → Int32} {x m o oD : Nat} (hC : fOK X cL_law 9 RL room_1 l D cy) (hst : l.stackTraces = false) (hN : gNcX X) (hS : gScr X b Ln xs) (hL : Ln ≤ 2048) (ho : o < oD) (inv : Nat → FW → Prop) (hkd : ∀ k w, inv k w → w.1 x = 5 ∧ w.1 m = 6)
    (hstep : ∀ (k : Nat) (w : FW) (a0 a1 a2 a3 : Int32), k < 512 → inv k w → ∃ w2, KK (a0 &&& 63).toNatClampNeg x m a1 a2 a3 w w2 ∧ inv (k + 1) w2)
    (hend : ∀ (w : FW) (h : Nat) (v : Int64) (vD : UInt64) (i : Int32), gAt X 622912 7151591 9 w h (EE cy o oD v vD) [(5, .int i), (4, .ref oD), (3, .ref o), (2, .ref m), (1, .ref x), (0, .ref b)] [] 2929) :
    ∀ (n k : Nat) (w : FW) (h : Nat) (v : Int64) (vD : UInt64), k + n = 512 → inv k w → gAt X (1000 + 3 * k) (10000 + 18 * k) 9 w h (EE cy o oD v vD) [(5, .int (nI (4 * k))), (4, .ref oD), (3, .ref o), (2, .ref m), (1, .ref x), (0, .ref b)] [] 28 := by
  have head : ∀ (k : Nat) (w : FW) (h : Nat) (v : Int64) (vD : UInt64), k ≤ 512 → (4 * k + 4 ≤ Ln → gAt X (1000 + 3 * k) (10000 + 18 * k) 9 w h (EE cy o oD v vD) [(5, .int (nI (4 * k))), (4, .ref oD), (3, .ref o), (2, .ref m), (1, .ref x), (0, .ref b)] [] 37) → gAt X (1000 + 3 * k) (10000 + 18 * k) 9 w h (EE cy o oD v vD) [(5, .int (nI (4 * k))), (4, .ref oD), (3, .ref o), (2, .ref m), (1, .ref x), (0, .ref b)] [] 28 := by
    intro k w h v vD hk kk
    refine g_iload hC dL_law_28 0 rfl ?_
    refine g_aload_n hC dL_law_30 rfl 5 rfl ?_
    refine g_slen hC hS dL_law_31 ?_
    refine g_iconst (v := 4) hC dL_law_32 (by decide) ?_
    refine g_isub hC dL_law_33 ?_
    refine g_icmp_gt hC 2929 dL_law_34 (by decide) (fun _ => g_widen (by omega) (by omega) (hend w h v vD _)) (fun z => kk ?_)
    have z1 : nI (4 * k) ≤ nI Ln - nI 4 := by
      rw [Int32.lt_iff_toInt_lt] at z
      rw [Int32.le_iff_toInt_le]
      exact Int.not_lt.mp z
    exact (nI_iff (by omega) (by omega)).mp z1
  intro n
  induction n with
  | zero =>
    intro k w h v vD hk hi
    exact head k w h v vD (by omega) (fun z => by omega)
  | succ n ih =>
    intro k w h v vD hk hi
    refine head k w h v vD (by omega) (fun z => ?_)
    obtain ⟨w2, hK, hi2⟩ := hstep k w (xs (nI (4 * k)).toNatClampNeg) (xs (nI (4 * k) + 1).toNatClampNeg) (xs (nI (4 * k) + 2).toNatClampNeg) (xs (nI (4 * k) + 3).toNatClampNeg) (by omega) hi
    refine law_call hC hst hN hS ho (vp_in_nI (by omega) (by omega)) (scr_in (j := 1) (by omega) hL).1 (scr_in (j := 2) (by omega) hL).1 (scr_in (j := 3) (by omega) hL).1 (hkd k w hi).1 (hkd k w hi).2 (by omega) (by omega) hK (fun h' v' vD' hh => ?_)
    refine g_iinc (L' := [(5, .int (nI (4 * (k + 1)))), (4, .ref oD), (3, .ref o), (2, .ref m), (1, .ref x), (0, .ref b)]) (v := nI (4 * (k + 1))) hC dL_law_2923 0 rfl ?_ (by decide) rfl ?_
    · exact nI_add (4 * k) 4
    refine g_goto hC 28 dL_law_2926 (by decide) ?_
    exact ih (k + 1) w2 h' v' vD' (by omega) hi2
