/-! The class wets, throws away, prints -/
theorem wet9_lt {a b : Nat} (ha : a < 10) (hb : b < 10) : (if nI a + nI b < 9 then nI a + nI b else 9) = wet9 (nI a) (nI b) ∧ ∃ g, g < 10 ∧ wet9 (nI a) (nI b) = nI g := by
  unfold wet9
  rw [nI_add, show (9 : Int32) = nI 9 from rfl]
  simp only [nI_leI (show a + b < 2 ^ 31 by omega) (show 9 < 2 ^ 31 by omega), nI_ltI (show a + b < 2 ^ 31 by omega) (show 9 < 2 ^ 31 by omega)]
  by_cases c : a + b < 9
  · rw [if_pos c, if_pos (by omega)]
    exact ⟨rfl, a + b, by omega, rfl⟩
  · rw [if_neg c]
    by_cases c2 : a + b ≤ 9
    · rw [if_pos c2, show a + b = 9 by omega]
      exact ⟨rfl, 9, by omega, rfl⟩
    · rw [if_neg c2]
      exact ⟨rfl, 9, by omega, rfl⟩
theorem half_b : ∀ b, b < 10 → nI b / 2 = nI (b / 2) := by decide +kernel
theorem six_t : ∀ a, a < 10 → (6 ≤ nI a ↔ 5 < nI a) ∧ (nI a < 6 ↔ nI a ≤ 5) := by decide +kernel
section CM
variable {w : FW} {x o : Nat} {A : Nat → Int32}
/-- the torn flag behind water -/
def tornBy (a b : Int32) : Int32 := if 5 < a then 1 else if b ≤ 5 then 0 else 1
set_option maxHeartbeats 2000000 in
theorem c_getWet {τ t h b : Nat} (T : TK w τ A t) (hh : h < 2) {z : Int32} (hz : zz z = nI h) (hb : b < 10) : ∃ w', F_X2_getWet τ z (nI b) w = some w' ∧ Fr w w' (bl τ 5) ∧ TS w' τ ∧ TR w' τ (wetB t h (nI b) A) t ∧ onlyT A (wetB t h (nI b) A) t ∧ WTk (wetB t h (nI b) A) t := by
  have H := T.h hh
  have H' := T.h (show 1 - h < 2 by omega)
  obtain ⟨y1, y2⟩ := c_half' T hh hz
  obtain ⟨g, hg, eg⟩ := T.2.2.g hh
  obtain ⟨g', hg', eg'⟩ := T.2.2.g (show 1 - h < 2 by omega)
  obtain ⟨v1, ⟨u, hu, eu⟩⟩ := wet9_lt hg hb
  obtain ⟨v2, ⟨u', hu', eu'⟩⟩ := wet9_lt hg' (show b / 2 < 10 by omega)
  have hne : ¬ h = 1 - h := by omega
  -- the first half
  have R1 := T.2.1.half T.h6 hh (c := 2) (e := 1) (by omega) (nI u)
  have S1 : TS (sI w 2 (τ + 3 + h) 0 (nI u)) τ := T.1.num (by decide)
  have O1 := (onlyT.rf A t).uH hh (show 1 < 4 by omega) (nI u)
  have W1 : WTk (up A (iH t h 1) (nI u)) t := T.2.2.half hh (by omega) (fun y => absurd y (by decide)) (fun _ => ⟨u, hu, rfl⟩) (fun y => absurd y (by decide)) (fun y => absurd y (by decide))
  have T1 : TK (sI w 2 (τ + 3 + h) 0 (nI u)) τ (up A (iH t h 1) (nI u)) t := ⟨S1, R1, W1⟩
  have eA1 : wetA t h (nI b) A = up A (iH t h 1) (nI u) := by unfold wetA; rw [eg, eu]
  have e10 : aT (up A (iH t h 1) (nI u)) t 10 = aT A t 10 := aT_upH A t _ (by omega)
  have g10 : gI (sI w 2 (τ + 3 + h) 0 (nI u)) 204 τ 0 = aT A t 10 := R1.2.2.2.2.1.trans e10
  have n3 : ¬ bl τ 5 τ → False := fun z => z (bl_in (by omega) (by omega))
  have f1 : Fr w (sI w 2 (τ + 3 + h) 0 (nI u)) (bl τ 5) := Fr.sI _ _ _ _ _ (bl_in (by omega) (by omega))
  have head : F_X2_getWet τ z (nI b) w = ((if aT A t 10 = 0 then some (sI (sI w 2 (τ + 3 + h) 0 (nI u)) 2 (τ + 3 + (1 - h)) 0 (nI u')) else some (sI w 2 (τ + 3 + h) 0 (nI u))) : Option FW).bind (fun x16 => (if (gI x16 204 τ 0) = 0 then (if 6 ≤ (gI x16 2 (τ + 3 + h) 0) then some (sI x16 204 τ 0 1) else fg (w.1 (τ + 3 + (1 - h)) = 1) inferInstance ((if (gI x16 2 (τ + 3 + (1 - h)) 0) < 6 then some (sI x16 204 τ 0 0) else some (sI x16 204 τ 0 1)))) else some (sI x16 204 τ 0 1))) := by
    unfold F_X2_getWet
    have e2 : aH (up A (iH t h 1) (nI u)) t (1 - h) 1 = aH A t (1 - h) 1 := by rw [aH_up A t (by omega) (by omega), if_neg (fun y => hne y.1.symm)]
    rw [fg_t T.1.1, c_half T hh hz, Option.bind_some, y1, Option.bind_some, c_half T (show 1 - h < 2 by omega) y2, Option.bind_some, fg_t H.1, c_wetterBy H.1 H.2.1, Option.bind_some, eg, v1, eu, g10, fg_t H'.1, half_b b hb, c_wetterBy (T1.h (show 1 - h < 2 by omega)).1 (T1.h (show 1 - h < 2 by omega)).2.1, Option.bind_some, e2, eg', v2, eu']
  rw [head]
  by_cases c : aT A t 10 = 0
  · rw [if_pos c, Option.bind_some]
    have L1 : aLen (up A (iH t h 1) (nI u)) t ≤ 6 := by rw [aLen_upH]; exact T.h6
    have R2 := R1.half L1 (show 1 - h < 2 by omega) (c := 2) (e := 1) (by omega) (nI u')
    have S2 : TS (sI (sI w 2 (τ + 3 + h) 0 (nI u)) 2 (τ + 3 + (1 - h)) 0 (nI u')) τ := S1.num (by decide)
    have O2 := O1.uH (show 1 - h < 2 by omega) (show 1 < 4 by omega) (nI u')
    have W2 : WTk (up (up A (iH t h 1) (nI u)) (iH t (1 - h) 1) (nI u')) t := W1.half (by omega) (by omega) (fun y => absurd y (by decide)) (fun _ => ⟨u', hu', rfl⟩) (fun y => absurd y (by decide)) (fun y => absurd y (by decide))
    have f2 : Fr w (sI (sI w 2 (τ + 3 + h) 0 (nI u)) 2 (τ + 3 + (1 - h)) 0 (nI u')) (bl τ 5) := f1.tr (Fr.sI _ _ _ _ _ (bl_in (by omega) (by omega)))
    have eA2 : wetA t (1 - h) (nI b / 2) (wetA t h (nI b) A) = up (up A (iH t h 1) (nI u)) (iH t (1 - h) 1) (nI u') := by
      rw [eA1, half_b b hb]
      have e2 : aH (up A (iH t h 1) (nI u)) t (1 - h) 1 = aH A t (1 - h) 1 := by rw [aH_up A t (by omega) (by omega), if_neg (fun y => hne y.1.symm)]
      unfold wetA
      rw [e2, eg', eu']
    have q10 : gI (sI (sI w 2 (τ + 3 + h) 0 (nI u)) 2 (τ + 3 + (1 - h)) 0 (nI u')) 204 τ 0 = 0 := by
      rw [gI_sI, if_neg (fun y => absurd y.1 (by decide)), g10]; exact c
    have q2 : gI (sI (sI w 2 (τ + 3 + h) 0 (nI u)) 2 (τ + 3 + (1 - h)) 0 (nI u')) 2 (τ + 3 + h) 0 = nI u := by
      rw [gI_sI, if_neg (by omega), gI_s]
    have q2' : gI (sI (sI w 2 (τ + 3 + h) 0 (nI u)) 2 (τ + 3 + (1 - h)) 0 (nI u')) 2 (τ + 3 + (1 - h)) 0 = nI u' := gI_s _ _ _ _ _
    have a1 : aH (up (up A (iH t h 1) (nI u)) (iH t (1 - h) 1) (nI u')) t h 1 = nI u := by
      rw [aH_up _ t (by omega) (by omega), if_neg (fun y => hne y.1), aH_up A t (by omega) (by omega), if_pos ⟨rfl, rfl⟩]
    have a2 : aH (up (up A (iH t h 1) (nI u)) (iH t (1 - h) 1) (nI u')) t (1 - h) 1 = nI u' := by
      rw [aH_up _ t (by omega) (by omega), if_pos ⟨rfl, rfl⟩]
    have a10 : aT (up (up A (iH t h 1) (nI u)) (iH t (1 - h) 1) (nI u')) t 10 = 0 := by
      rw [aT_upH _ t _ (by omega), e10]; exact c
    have L2 : aLen (up (up A (iH t h 1) (nI u)) (iH t (1 - h) 1) (nI u')) t ≤ 6 := by rw [aLen_upH]; exact L1
    rw [q10, if_pos rfl, q2, q2', fg_t H'.1]
    have eB : wetB t h (nI b) A = up (up (up A (iH t h 1) (nI u)) (iH t (1 - h) 1) (nI u')) (17 + 20 * t + 10) (if 6 ≤ nI u then 1 else if nI u' < 6 then 0 else 1) := by
      unfold wetB
      rw [if_pos c, eA2]
      generalize hB : up (up A (iH t h 1) (nI u)) (iH t (1 - h) 1) (nI u') = B at a1 a2 a10
      have e0 : up B (17 + 20 * t + 10) 0 = B := by
        have : B (17 + 20 * t + 10) = 0 := a10
        rw [← this]
        exact up_self _ _
      have hs := six_t u hu
      have hs' := six_t u' hu'
      rcases (show h = 0 ∨ h = 1 by omega) with rfl | rfl
      · rw [a1, a2]
        simp only [hs.1, hs'.2]
        by_cases d1 : 5 < nI u
        · rw [if_pos d1, if_pos d1]
        · rw [if_neg d1, if_neg d1]
          by_cases d2 : nI u' ≤ 5
          · rw [if_pos d2, if_pos d2, e0]
          · rw [if_neg d2, if_neg d2]
      · rw [show (1 - 1 : Nat) = 0 from rfl] at a2
        rw [a1, a2]
        by_cases d1 : 5 < nI u
        · rw [if_pos (hs.1.mpr d1)]
          by_cases d2 : 5 < nI u'
          · rw [if_pos d2]
          · rw [if_neg d2, if_neg (nle9 d1)]
        · rw [if_neg (fun y => d1 (hs.1.mp y))]
          by_cases d2 : 5 < nI u'
          · rw [if_pos d2, if_neg (fun y => nle9 d2 (hs'.2.mp y))]
          · rw [if_neg d2, if_pos (le9 d1), if_pos (hs'.2.mpr (le9 d2)), e0]
    rw [eB]
    have key : ∀ v : Int32, (v = 0 ∨ v = 1) → ∃ w', some (sI (sI (sI w 2 (τ + 3 + h) 0 (nI u)) 2 (τ + 3 + (1 - h)) 0 (nI u')) 204 τ 0 v) = some w' ∧ Fr w w' (bl τ 5) ∧ TS w' τ ∧ TR w' τ (up (up (up A (iH t h 1) (nI u)) (iH t (1 - h) 1) (nI u')) (17 + 20 * t + 10) v) t ∧ onlyT A (up (up (up A (iH t h 1) (nI u)) (iH t (1 - h) 1) (nI u')) (17 + 20 * t + 10) v) t ∧ WTk (up (up (up A (iH t h 1) (nI u)) (iH t (1 - h) 1) (nI u')) (17 + 20 * t + 10) v) t :=
      fun v hv => ⟨_, rfl, f2.tr (Fr.sI _ _ _ _ _ (bl_in (by omega) (by omega))), S2.num (by decide), R2.torn L2 v, O2.uT (by omega) v, W2.torn hv⟩
    by_cases d1 : 6 ≤ nI u
    · rw [if_pos d1, if_pos d1]
      exact key 1 (Or.inr rfl)
    · rw [if_neg d1, if_neg d1]
      by_cases d2 : nI u' < 6
      · rw [if_pos d2, if_pos d2]
        exact key 0 (Or.inl rfl)
      · rw [if_neg d2, if_neg d2]
        exact key 1 (Or.inr rfl)
  · have c1 : aT A t 10 = 1 := T.2.2.2.2.2.2.1.resolve_left c
    have eB : wetB t h (nI b) A = up A (iH t h 1) (nI u) := by
      unfold wetB
      rw [if_neg c, eA1]
    have L1 : aLen (up A (iH t h 1) (nI u)) t ≤ 6 := by rw [aLen_upH]; exact T.h6
    rw [if_neg c, Option.bind_some, g10, if_neg c, eB]
    have R2 := R1.torn L1 1
    have e0 : up (up A (iH t h 1) (nI u)) (17 + 20 * t + 10) 1 = up A (iH t h 1) (nI u) := by
      have : up A (iH t h 1) (nI u) (17 + 20 * t + 10) = 1 := e10.trans c1
      rw [← this]
      exact up_self _ _
    rw [e0] at R2
    exact ⟨_, rfl, f1.tr (Fr.sI _ _ _ _ _ (bl_in (by omega) (by omega))), S1.num (by decide), R2, O1, W1⟩
theorem t_wet (X : XO w x o A) (a : Int32) {h : Nat} (hh : h < 2) {z : Int32} (hz : zz z = nI h) (b : Int32) : CA w x o 1 (sWet a h b A) (F_X4_tryWet x a z b w) := by
  obtain ⟨x1, x2, K⟩ := X
  obtain ⟨hn, h8, hT⟩ := K.2.2.n
  unfold F_X4_tryWet sWet
  rw [fg_t x1, x2, fg_t K.1.1, c_hasTicket K, Option.bind_some]
  rcases tick_cases a h8 with ⟨t, ht, rfl, hi⟩ | hi
  · obtain ⟨z1, z2, z3, z4, z5, T⟩ := c_tkat K ht
    rw [z1, if_neg (show ¬ (1 : Int32) = 0 by decide), if_neg (show ¬ (1 : Int32) = 0 by decide), z2, fg_t z3, fg_t z4, z5, fg_t T.1.1]
    have e9 : (if b < 1 then (0 : Int32) else if b ≤ 9 then 1 else 0) = inn b 1 9 := by
      unfold inn
      by_cases c : b < 1
      · rw [if_pos c, if_pos c]
      · rw [if_neg c, if_neg c]
        by_cases c2 : b ≤ 9
        · rw [if_pos c2, if_neg (fun y => nle9 y c2)]
        · rw [if_neg c2, if_pos ?_]
          rw [Int32.le_iff_toInt_le] at c2
          rw [Int32.lt_iff_toInt_lt]
          omega
    by_cases hb : inn b 1 9 = 0
    · rw [if_pos hb]
      rw [hb] at e9
      by_cases c1 : b < 1
      · rw [if_pos c1]
        exact CA.bad2
      rw [if_neg c1] at e9 ⊢
      by_cases c2 : b ≤ 9
      · rw [if_pos c2] at e9
        exact absurd e9 (by decide)
      rw [if_neg c2]
      exact CA.bad2
    rw [if_neg hb]
    have c1 : ¬ b < 1 := fun y => by
      rw [if_pos y] at e9
      exact hb e9.symm
    have c2 : b ≤ 9 := by
      by_cases y : b ≤ 9
      · exact y
      · rw [if_neg c1, if_neg y] at e9
        exact absurd e9.symm hb
    obtain ⟨j, -, hj, rfl⟩ := inn_1 (a := 1) (b := 9) (by omega) (by omega) hb
    obtain ⟨w', ew, fw, sw, rw9, ow, ww⟩ := c_getWet T hh hz (show j < 10 by omega)
    rw [if_neg c1, if_pos c2, ew, Option.bind_some]
    obtain ⟨g1, g2, g3⟩ := K.tick ht fw sw rw9 ow
    exact CA.ok g3 g1 g2
  · rw [hn, hi, if_pos rfl, if_pos rfl]
    exact CA.bad1
/-- the references of an office's tickets are turned -/
def rR (w : FW) (o t k : Nat) : FW := (w.1, w.2.1, w.2.2.1, fun c' a' i' => if c' = 604 ∧ a' = o + 1 ∧ t ≤ i' ∧ i' < t + k then w.2.2.2 604 (o + 1) (i' + 1) else w.2.2.2 c' a' i')
theorem rR_0 (w : FW) (o t : Nat) : rR w o t 0 = w := by
  obtain ⟨k, l, g, r⟩ := w
  unfold rR
  congr 3
  funext c' a' i'
  rw [if_neg (by omega)]
theorem rR_s (w : FW) (o t k : Nat) : sR (rR w o t k) 604 (o + 1) (t + k) (gR w 604 (o + 1) (t + k + 1)) = rR w o t (k + 1) := by
  unfold sR rR
  congr 3
  funext c' a' i'
  show (if c' = 604 ∧ a' = o + 1 ∧ i' = t + k then gR w 604 (o + 1) (t + k + 1) else if c' = 604 ∧ a' = o + 1 ∧ t ≤ i' ∧ i' < t + k then w.2.2.2 604 (o + 1) (i' + 1) else w.2.2.2 c' a' i') = if c' = 604 ∧ a' = o + 1 ∧ t ≤ i' ∧ i' < t + (k + 1) then w.2.2.2 604 (o + 1) (i' + 1) else w.2.2.2 c' a' i'
  by_cases h1 : c' = 604 ∧ a' = o + 1 ∧ i' = t + k
  · rw [if_pos h1, if_pos ⟨h1.1, h1.2.1, by omega, by omega⟩, h1.2.2]
    rfl
  · rw [if_neg h1]
    by_cases h2 : c' = 604 ∧ a' = o + 1 ∧ t ≤ i' ∧ i' < t + k
    · rw [if_pos h2, if_pos ⟨h2.1, h2.2.1, by omega, by omega⟩]
    · rw [if_neg h2, if_neg (by omega)]
theorem gR_rR (w : FW) (o t k c' a' i' : Nat) : gR (rR w o t k) c' a' i' = if c' = 604 ∧ a' = o + 1 ∧ t ≤ i' ∧ i' < t + k then gR w 604 (o + 1) (i' + 1) else gR w c' a' i' := rfl
theorem gI_rR (w : FW) (o t k c' a' i' : Nat) : gI (rR w o t k) c' a' i' = gI w c' a' i' := rfl
theorem t_away (X : XO w x o A) (a : Int32) : CA w x o 1 (sAway a A) (F_X4_tryThrowAway x a w) := by
  obtain ⟨x1, x2, K⟩ := X
  obtain ⟨k1, k2, l1, k3, l2, k4, l3, r1, r2, r3, r4⟩ := K.s
  obtain ⟨hn, h8, hT⟩ := K.2.2.n
  unfold F_X4_tryThrowAway sAway
  rw [fg_t x1, x2, fg_t K.1.1, c_hasTicket K, Option.bind_some]
  rcases tick_cases a h8 with ⟨t, ht, rfl, hi⟩ | hi
  · obtain ⟨z1, z2, z3, z4, z5, T⟩ := c_tkat K ht
    rw [z1, if_neg (show ¬ (1 : Int32) = 0 by decide), if_neg (show ¬ (1 : Int32) = 0 by decide), z5]
    obtain ⟨m, hm⟩ : ∃ m, aN A = m + 1 := ⟨aN A - 1, by omega⟩
    have hF : F_X1_removeTicket o (nI t) w = some (sR (sI (rR w o t (m - t)) 101 o 0 (nI m)) 604 (o + 1) m (gR w 604 (o + 1) t)) := by
      unfold F_X1_removeTicket
      rw [fg_t k1, r1, fg_t k2, fg_t z4, z5]
      refine fLoop_bind (r := rR w o t (m - t)) (fun k => (nI (t + 1 + k), rR w o t k)) (m - t) ?_ (fun k hk => ?_) ?_ ?_
      · rw [rR_0, nI_1]
      · have c1 : ¬ nI (aN A) ≤ nI (t + 1 + k) := nI_ge (by omega) (by omega)
        have e1 := nI_clamp (n := t + 1 + k) (by omega)
        have e2 : nI (t + 1 + k) - 1 = nI (t + k) := by rw [show t + 1 + k = (t + k) + 1 by omega, nI_pred]
        have e3 := nI_clamp (n := t + k) (by omega)
        show (if gI w 101 o 0 ≤ nI (t + 1 + k) then _ else _) = _
        rw [K.2.1.1, hn, if_neg c1]
        have q0 : gR (rR w o t k) 100 o 0 = o + 1 := by rw [gR_rR, if_neg (fun y => absurd y.1 (by decide))]; exact r1
        have q1 : gR (rR w o t k) 604 (o + 1) (t + 1 + k) = gR w 604 (o + 1) (t + k + 1) := by
          rw [gR_rR, if_neg (by omega), show t + 1 + k = t + k + 1 by omega]
        show fg (w.1 (gR (rR w o t k) 100 o 0) = 14) _ _ = _
        refine (fg_t (by rw [q0]; exact k2)).trans ?_
        refine (fg_t (by rw [q0, l1]; exact nI_in (by omega) (by omega))).trans ?_
        refine (fg_t (by rw [q0, e1, q1]; exact (K.1.tkt (t := t + k + 1) (by omega)).1.1)).trans ?_
        refine (fg_t (by rw [q0, l1, e2]; exact nI_in (by omega) (by omega))).trans ?_
        rw [q0, e1, e2, e3, q1, rR_s, nI_1]
        rfl
      · have c1 : nI (aN A) ≤ nI (t + 1 + (m - t)) := nI_le (by omega) (by omega)
        show (if gI w 101 o 0 ≤ nI (t + 1 + (m - t)) then _ else _) = _
        rw [K.2.1.1, hn, if_pos c1]
      · have q0 : gR (rR w o t (m - t)) 100 o 0 = o + 1 := by rw [gR_rR, if_neg (fun y => absurd y.1 (by decide))]; exact r1
        have q2 : gI (rR w o t (m - t)) 101 o 0 = nI (m + 1) := (K.2.1.1.trans hn).trans (by rw [hm])
        refine (fg_t (by rw [q0]; exact k2)).trans ?_
        refine (fg_t T.1.1).trans ?_
        rw [gI_s, q2, nI_pred, nI_clamp (show m < 2 ^ 31 by omega)]
        refine (fg_t (by rw [q0, l1]; exact ix_ok2 (by omega) (by omega))).trans ?_
        rw [gR_sI, q0]
    rw [hF, Option.bind_some]
    have hA' : aN (dropA t (aN A) A) = m := by
      show (dropA t (aN A) A 0).toNatClampNeg = m
      rw [show dropA t (aN A) A 0 = nI (aN A - 1) from if_pos rfl, hm, nI_clamp (by omega)]
      rfl
    have hsame : ∀ u, u < m → sameT A (dropA t (aN A) A) (if u < t then u else u + 1) u := by
      intro u hu e he
      unfold aT dropA
      rw [hm, if_neg (by omega)]
      by_cases c : u < t
      · rw [if_pos c, if_neg (by omega), if_neg (by omega)]
      · rw [if_neg c, if_pos (by omega)]
        congr 1
        omega
    have hlow : ∀ i, ¬ i = 0 → i < 17 → dropA t (aN A) A i = A i := by
      intro i h1 h2
      unfold dropA
      rw [if_neg h1, if_neg (by omega), if_neg (by omega)]
    -- where the tickets stand
    have hR : ∀ j, j < 8 → gR (sR (sI (rR w o t (m - t)) 101 o 0 (nI m)) 604 (o + 1) m (gR w 604 (o + 1) t)) 604 (o + 1) j = gR w 604 (o + 1) (if j < t then j else if j < m then j + 1 else if j = m then t else j) := by
      intro j hj
      rw [gR_sR]
      by_cases c1 : j = m
      · rw [if_pos ⟨rfl, rfl, c1⟩, if_neg (by omega), if_neg (by omega), if_pos c1]
      · rw [if_neg (fun y => c1 y.2.2), gR_sI, gR_rR]
        by_cases c2 : j < t
        · rw [if_neg (by omega), if_pos c2]
        · by_cases c3 : j < m
          · rw [if_pos ⟨rfl, rfl, by omega, by omega⟩, if_neg c2, if_pos c3]
          · rw [if_neg (by omega), if_neg c2, if_neg c3, if_neg c1]
    have ff : Fr w (sR (sI (rR w o t (m - t)) 101 o 0 (nI m)) 604 (o + 1) m (gR w 604 (o + 1) t)) (bl o 2) := by
      refine ⟨rfl, rfl, fun c' a' i' h => ?_, fun c' a' i' h => ?_⟩
      · rw [gI_sR, gI_sI, if_neg (fun y => h (bl_in (by omega) (by omega))), gI_rR]
      · rw [gR_sR, if_neg (fun y => h (bl_in (by omega) (by omega))), gR_sI, gR_rR, if_neg (fun y => h (bl_in (by omega) (by omega)))]
    have nb : ∀ q, o + 2 ≤ q → ¬ bl o 2 q := fun q h z => by obtain ⟨q1, q2⟩ := z; omega
    have rO : ∀ c, gR (sR (sI (rR w o t (m - t)) 101 o 0 (nI m)) 604 (o + 1) m (gR w 604 (o + 1) t)) c o 0 = gR w c o 0 := fun c => by
      rw [gR_sR, if_neg (by omega), gR_sI, gR_rR, if_neg (by omega)]
    have gO : ∀ c, ¬ c = 101 → gI (sR (sI (rR w o t (m - t)) 101 o 0 (nI m)) 604 (o + 1) m (gR w 604 (o + 1) t)) c o 0 = gI w c o 0 := fun c hc => by
      rw [gI_sR, gI_sI, if_neg (fun y => hc y.1), gI_rR]
    have gO1 : gI (sR (sI (rR w o t (m - t)) 101 o 0 (nI m)) 604 (o + 1) m (gR w 604 (o + 1) t)) 101 o 0 = nI m := by
      rw [gI_sR, gI_s]
    obtain ⟨b1, b2, b3, b4, b5, b6, bm, bp, bd, bt⟩ := id K.2.1
    obtain ⟨s1, s2, s3, s4, s5, s6, s7, s8, s9, s10, s11, sw, st9, si, sj⟩ := id K.1
    generalize hw' : sR (sI (rR w o t (m - t)) 101 o 0 (nI m)) 604 (o + 1) m (gR w 604 (o + 1) t) = w' at hR ff rO gO gO1
    have e0 : nI (aN A - 1) = nI m := by rw [hm]; rfl
    rw [e0]
    refine CA.ok (ff.mono (fun q z => by obtain ⟨q1, q2⟩ := z; exact ⟨by omega, by omega⟩)) ?_ ?_
    · refine ⟨by rw [ff.1]; exact s1, by rw [ff.1]; exact s2, by rw [ff.2.1]; exact s3, by rw [ff.1]; exact s4, by rw [ff.2.1]; exact s5, by rw [ff.1]; exact s6, by rw [ff.2.1]; exact s7, by rw [rO]; exact s8, by rw [rO]; exact s9, by rw [rO]; exact s10, by rw [rO]; exact s11, sw.fr ff (nb _ (by omega)) (nb _ (by omega)), fun j hj => (st9 j hj).fr ff (fun q h1 h2 => nb q (by omega)), fun j hj => ?_, fun j k hj hk hjk => ?_⟩
      · rw [hR j hj]
        exact si _ (by split <;> (try split) <;> (try split) <;> omega)
      · rw [hR j hj, hR k hk] at hjk
        have := sj _ _ (by split <;> (try split) <;> (try split) <;> omega) (by split <;> (try split) <;> (try split) <;> omega) hjk
        revert this
        split <;> (try split) <;> (try split) <;> (try split) <;> (try split) <;> (try split) <;> omega
    · refine ⟨?_, by rw [gO 105 (by decide), b2, hlow 1 (by omega) (by omega)], by rw [gO 106 (by decide), b3, hlow 2 (by omega) (by omega)], by rw [gO 107 (by decide), b4, hlow 3 (by omega) (by omega)], by rw [gO 108 (by decide), b5, hlow 4 (by omega) (by omega)], by rw [gO 109 (by decide), b6, hlow 5 (by omega) (by omega)], fun p hp => ?_, fun p hp => ?_, ?_, fun u hu => ?_⟩
      · rw [gO1]
        unfold dropA
        rw [if_pos rfl, hm]
        rfl
      · rw [ff.2.2.1 _ _ _ (nb _ (by omega)), bm p hp, hlow (7 + p) (by omega) (by omega)]
      · rw [ff.2.2.1 _ _ _ (nb _ (by omega)), bp p hp, shut_congr (hlow 6 (by omega) (by omega))]
      · have h6 := K.2.2.d.2
        rw [hlow 10 (by omega) (by omega)]
        exact (bd.fr ff (nb _ (by omega)) (nb _ (by omega))).to (fun k hk => (hlow (11 + k) (by omega) (by omega)).symm)
      · rw [hA'] at hu
        have ht9 : tk w' o u = gR w 604 (o + 1) (if u < t then u else u + 1) := by
          refine (hR u (by omega)).trans ?_
          by_cases c : u < t
          · rw [if_pos c, if_pos c]
          · rw [if_neg c, if_neg c, if_pos hu]
        rw [ht9]
        have hlt : (if u < t then u else u + 1) < aN A := by split <;> omega
        obtain ⟨q1, q2, q3⟩ := K.1.tkt (t := if u < t then u else u + 1) (by omega)
        exact ((bt _ hlt).fr ff (fun q h1 h2 => nb q (by unfold tk at q2 h1; omega))).to (hsame u hu) (hT _ hlt).len.2
  · rw [hn, hi, if_pos rfl, if_pos rfl]
    exact CA.bad1
end CM
