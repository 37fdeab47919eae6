/-! The class: its acts on tickets -/
/-- entry e of ticket t is changed to v -/
theorem aT_up (A : Nat → Int32) (t : Nat) {e e' : Nat} (v : Int32) : aT (up A (17 + 20 * t + e) v) t e' = if e' = e then v else aT A t e' := by
  unfold aT up
  by_cases h : e' = e
  · rw [if_pos h, if_pos (by omega)]
  · rw [if_neg h, if_neg (by omega)]
theorem aH_upT (A : Nat → Int32) (t h : Nat) {e e' : Nat} (v : Int32) (hne : ¬ e = 12 + 4 * h + e') : aH (up A (17 + 20 * t + e) v) t h e' = aH A t h e' := up_n (by omega)
theorem aL_upT (A : Nat → Int32) (t k : Nat) {e : Nat} (v : Int32) (hne : ¬ e = 1 + k) : aL (up A (17 + 20 * t + e) v) t k = aL A t k := up_n (by omega)
theorem aH_up (A : Nat → Int32) (t : Nat) {h h' e e' : Nat} (he : e < 4) (he' : e' < 4) (v : Int32) : aH (up A (iH t h e) v) t h' e' = if h' = h ∧ e' = e then v else aH A t h' e' := by
  unfold aH iH up
  by_cases c : h' = h ∧ e' = e
  · obtain ⟨rfl, rfl⟩ := c
    rw [if_pos rfl, if_pos ⟨rfl, rfl⟩]
  · rw [if_neg c, if_neg (by omega)]
theorem aT_upH (A : Nat → Int32) (t : Nat) {h e e' : Nat} (v : Int32) (hne : ¬ e' = 12 + 4 * h + e) : aT (up A (iH t h e) v) t e' = aT A t e' := up_n (by unfold iH; omega)
theorem aL_upH (A : Nat → Int32) (t : Nat) {h e k : Nat} (v : Int32) (hk : k < 6) : aL (up A (iH t h e) v) t k = aL A t k := up_n (by unfold iH; omega)
theorem aLen_up (A : Nat → Int32) (t : Nat) {e : Nat} (v : Int32) (hne : ¬ e = 0) : aLen (up A (17 + 20 * t + e) v) t = aLen A t := by
  unfold aLen
  rw [aT_up, if_neg (fun z => hne z.symm)]
theorem aLen_upH (A : Nat → Int32) (t : Nat) {h e : Nat} (v : Int32) : aLen (up A (iH t h e) v) t = aLen A t := by
  unfold aLen
  rw [aT_upH A t v (by omega)]
/-- what a change of ticket t leaves of the others -/
def onlyT (A A' : Nat → Int32) (t : Nat) : Prop := ∀ i, ¬ (17 + 20 * t ≤ i ∧ i < 17 + 20 * t + 20) → A' i = A i
theorem onlyT.rf (A : Nat → Int32) (t : Nat) : onlyT A A t := fun _ _ => rfl
theorem onlyT.uT {A A' : Nat → Int32} {t : Nat} (h : onlyT A A' t) {e : Nat} (he : e < 20) (v : Int32) : onlyT A (up A' (17 + 20 * t + e) v) t := fun i hi => (up_n (by omega)).trans (h i hi)
theorem onlyT.uH {A A' : Nat → Int32} {t : Nat} (h : onlyT A A' t) {k e : Nat} (hk : k < 2) (he : e < 4) (v : Int32) : onlyT A (up A' (iH t k e) v) t := fun i hi => (up_n (by unfold iH; omega)).trans (h i hi)
section CK
variable {w : FW} {x o : Nat} {A : Nat → Int32}
/-- the office behind a change of one ticket -/
theorem KO.tick (K : KO w o A) {w' : FW} {A' : Nat → Int32} {t : Nat} (ht : t < aN A) (hf : Fr w w' (bl (gR w 604 (o + 1) t) 5)) (hs : TS w' (gR w 604 (o + 1) t)) (hr : TR w' (gR w 604 (o + 1) t) A' t) (ho : onlyT A A' t) : OS w' o ∧ OR w' o A' ∧ Fr w w' (bl o 46) := by
  obtain ⟨hn, h8, hT⟩ := K.2.2.n
  obtain ⟨b1, b2, b3⟩ := K.1.tkt (t := t) (by omega)
  unfold tk at b1 b2 b3
  refine ⟨K.1.tick (t := t) (by omega) hf hs, K.2.1.tick K.1 h8 K.2.2.d.2 ht hf hr (fun i hi => ho i (by omega)) (fun u hu hne => ⟨fun e he => ho _ (by omega), (hT u hu).len.2⟩), hf.mono (fun q z => by obtain ⟨z1, z2⟩ := z; exact ⟨by omega, by omega⟩)⟩
/-- a ticket whose torn flag is set -/
theorem TR.torn {τ t : Nat} (hr : TR w τ A t) (h6 : aLen A t ≤ 6) (v : Int32) : TR (sI w 204 τ 0 v) τ (up A (17 + 20 * t + 10) v) t := by
  obtain ⟨p1, p2, p3, p4, p5, p6, p7, p8⟩ := hr
  have hH : ∀ h e, h < 2 → e < 4 → aH (up A (17 + 20 * t + 10) v) t h e = aH A t h e := fun h e h1 h2 => aH_upT A t h v (by omega)
  refine ⟨?_, ?_, ?_, ?_, ?_, ?_, ?_, ?_⟩
  · rw [aLen_up A t v (by omega)]
    exact (p1.fr (Fr.sI _ _ _ _ _ (P := fun a => a = τ) rfl) (by omega) (by omega)).to (fun k hk => (aL_upT A t k v (by omega)).symm)
  · rw [aT_up, if_neg (by omega)]; exact p2
  · rw [aT_up, if_neg (by omega)]; exact p3
  · rw [aT_up, if_neg (by omega)]; exact p4
  · rw [aT_up, if_pos rfl]; exact gI_s _ _ _ _ _
  · rw [aT_up, if_neg (by omega)]; exact p6
  · unfold HR pun
    rw [hH 0 0 (by omega) (by omega), hH 0 1 (by omega) (by omega), hH 0 2 (by omega) (by omega), hH 0 3 (by omega) (by omega)]
    exact p7.fr (Fr.sI _ _ _ _ _ (P := fun a => a = τ) rfl) (by omega)
  · unfold HR pun
    rw [hH 1 0 (by omega) (by omega), hH 1 1 (by omega) (by omega), hH 1 2 (by omega) (by omega), hH 1 3 (by omega) (by omega)]
    exact p8.fr (Fr.sI _ _ _ _ _ (P := fun a => a = τ) rfl) (by omega)
theorem TR.outday {τ t : Nat} (hr : TR w τ A t) (h6 : aLen A t ≤ 6) (v : Int32) : TR (sI w 205 τ 0 v) τ (up A (17 + 20 * t + 11) v) t := by
  obtain ⟨p1, p2, p3, p4, p5, p6, p7, p8⟩ := hr
  have hH : ∀ h e, h < 2 → e < 4 → aH (up A (17 + 20 * t + 11) v) t h e = aH A t h e := fun h e h1 h2 => aH_upT A t h v (by omega)
  refine ⟨?_, ?_, ?_, ?_, ?_, ?_, ?_, ?_⟩
  · rw [aLen_up A t v (by omega)]
    exact (p1.fr (Fr.sI _ _ _ _ _ (P := fun a => a = τ) rfl) (by omega) (by omega)).to (fun k hk => (aL_upT A t k v (by omega)).symm)
  · rw [aT_up, if_neg (by omega)]; exact p2
  · rw [aT_up, if_neg (by omega)]; exact p3
  · rw [aT_up, if_neg (by omega)]; exact p4
  · rw [aT_up, if_neg (by omega)]; exact p5
  · rw [aT_up, if_pos rfl]; exact gI_s _ _ _ _ _
  · unfold HR pun
    rw [hH 0 0 (by omega) (by omega), hH 0 1 (by omega) (by omega), hH 0 2 (by omega) (by omega), hH 0 3 (by omega) (by omega)]
    exact p7.fr (Fr.sI _ _ _ _ _ (P := fun a => a = τ) rfl) (by omega)
  · unfold HR pun
    rw [hH 1 0 (by omega) (by omega), hH 1 1 (by omega) (by omega), hH 1 2 (by omega) (by omega), hH 1 3 (by omega) (by omega)]
    exact p8.fr (Fr.sI _ _ _ _ _ (P := fun a => a = τ) rfl) (by omega)
/-- one number of a half is changed -/
theorem TR.half {τ t h c e : Nat} (hr : TR w τ A t) (h6 : aLen A t ≤ 6) (hh : h < 2) (hc : (c = 2 ∧ e = 1) ∨ (c = 3 ∧ e = 2) ∨ (c = 4 ∧ e = 3)) (v : Int32) : TR (sI w c (τ + 3 + h) 0 v) τ (up A (iH t h e) v) t := by
  obtain ⟨p1, p2, p3, p4, p5, p6, p7, p8⟩ := hr
  have he : e < 4 := by omega
  refine ⟨?_, ?_, ?_, ?_, ?_, ?_, ?_, ?_⟩
  · rw [aLen_upH A t v]
    exact (p1.fr (Fr.sI _ _ _ _ _ (P := fun a => a = τ + 3 + h) rfl) (by omega) (by omega)).to (fun k hk => (aL_upH A t v (by omega)).symm)
  · rw [aT_upH A t v (by omega), gI_sI, if_neg (by omega)]; exact p2
  · rw [aT_upH A t v (by omega), gI_sI, if_neg (by omega)]; exact p3
  · rw [aT_upH A t v (by omega), gI_sI, if_neg (by omega)]; exact p4
  · rw [aT_upH A t v (by omega), gI_sI, if_neg (by omega)]; exact p5
  · rw [aT_upH A t v (by omega), gI_sI, if_neg (by omega)]; exact p6
  · obtain ⟨q0, q1, q2, q3, q4⟩ := p7
    unfold HR pun
    rw [aH_up A t he (by omega), aH_up A t he (by omega), aH_up A t he (by omega), aH_up A t he (by omega), gI_sI, gI_sI, gI_sI, gI_sI, gI_sI]
    unfold pun at q0
    rcases (show h = 0 ∨ h = 1 by omega) with rfl | rfl <;> rcases hc with ⟨rfl, rfl⟩ | ⟨rfl, rfl⟩ | ⟨rfl, rfl⟩ <;> simp [q0, q1, q2, q3, q4]
  · obtain ⟨q0, q1, q2, q3, q4⟩ := p8
    unfold HR pun
    rw [aH_up A t he (by omega), aH_up A t he (by omega), aH_up A t he (by omega), aH_up A t he (by omega), gI_sI, gI_sI, gI_sI, gI_sI, gI_sI]
    unfold pun at q0
    rcases (show h = 0 ∨ h = 1 by omega) with rfl | rfl <;> rcases hc with ⟨rfl, rfl⟩ | ⟨rfl, rfl⟩ | ⟨rfl, rfl⟩ <;> simp [q0, q1, q2, q3, q4]
/-- a half is punched with a mood -/
theorem TR.punch {τ t h : Nat} (hr : TR w τ A t) (h6 : aLen A t ≤ 6) (hh : h < 2) {v : Int32} (hv : ¬ v = -1) : TR (sI (sI w 0 (τ + 3 + h) 0 1) 1 (τ + 3 + h) 0 v) τ (up A (iH t h 0) v) t := by
  obtain ⟨p1, p2, p3, p4, p5, p6, p7, p8⟩ := hr
  have ff : Fr w (sI (sI w 0 (τ + 3 + h) 0 1) 1 (τ + 3 + h) 0 v) (fun a => a = τ + 3 + h) := (Fr.sI _ _ _ _ _ (P := fun a => a = τ + 3 + h) rfl).tr (Fr.sI _ _ _ _ _ (P := fun a => a = τ + 3 + h) rfl)
  refine ⟨?_, ?_, ?_, ?_, ?_, ?_, ?_, ?_⟩
  · rw [aLen_upH A t v]
    exact (p1.fr ff (by omega) (by omega)).to (fun k hk => (aL_upH A t v (by omega)).symm)
  · rw [aT_upH A t v (by omega), gI_sI, if_neg (by omega), gI_sI, if_neg (by omega)]; exact p2
  · rw [aT_upH A t v (by omega), gI_sI, if_neg (by omega), gI_sI, if_neg (by omega)]; exact p3
  · rw [aT_upH A t v (by omega), gI_sI, if_neg (by omega), gI_sI, if_neg (by omega)]; exact p4
  · rw [aT_upH A t v (by omega), gI_sI, if_neg (by omega), gI_sI, if_neg (by omega)]; exact p5
  · rw [aT_upH A t v (by omega), gI_sI, if_neg (by omega), gI_sI, if_neg (by omega)]; exact p6
  · obtain ⟨q0, q1, q2, q3, q4⟩ := p7
    unfold HR pun
    rw [aH_up A t (by omega) (by omega), aH_up A t (by omega) (by omega), aH_up A t (by omega) (by omega), aH_up A t (by omega) (by omega)]
    unfold pun at q0
    rcases (show h = 0 ∨ h = 1 by omega) with rfl | rfl <;> simp [gI_sI, q0, q1, q2, q3, q4, hv]
  · obtain ⟨q0, q1, q2, q3, q4⟩ := p8
    unfold HR pun
    rw [aH_up A t (by omega) (by omega), aH_up A t (by omega) (by omega), aH_up A t (by omega) (by omega), aH_up A t (by omega) (by omega)]
    unfold pun at q0
    rcases (show h = 0 ∨ h = 1 by omega) with rfl | rfl <;> simp [gI_sI, q0, q1, q2, q3, q4, hv]
theorem TS.num {τ c a i : Nat} {v : Int32} (h : TS w τ) (hc : ¬ c = 600) : TS (sI w c a i v) τ := by
  obtain ⟨s1, s2, s3, s4, s5, s6, s7⟩ := h
  exact ⟨s1, s2, s3, s4, s5, s6, s7.1, s7.2.1, s7.2.2.1, s7.2.2.2.1, fun k hk => by rw [gI_sI, if_neg (fun z => hc z.1.symm)]; exact s7.2.2.2.2 k hk⟩
/-- the head of an act on a ticket -/
theorem c_tkat (K : KO w o A) {t : Nat} (ht : t < aN A) : inn (nI t) 0 (A 0 - 1) = 1 ∧ gR w 100 o 0 = o + 1 ∧ w.1 (o + 1) = 14 ∧ ¬ (nI t < 0 ∨ w.2.1 (o + 1) ≤ (nI t).toNatClampNeg) ∧ (nI t).toNatClampNeg = t ∧ TK w (gR w 604 (o + 1) t) A t := by
  obtain ⟨k1, k2, l1, k3, l2, k4, l3, r1, r2, r3, r4⟩ := K.s
  obtain ⟨hn, h8, hT⟩ := K.2.2.n
  refine ⟨?_, r1, k2, ?_, nI_clamp (by omega), K.T ht⟩
  · rw [hn]; exact inn_t (by omega) ht
  · rw [l1]; exact nI_in (by omega) (by omega)
theorem t_tear (X : XO w x o A) (a : Int32) : CA w x o 1 (sTear a A) (F_X4_tryTear x a w) := by
  obtain ⟨x1, x2, K⟩ := X
  obtain ⟨hn, h8, hT⟩ := K.2.2.n
  unfold F_X4_tryTear sTear
  rw [fg_t x1, x2, fg_t K.1.1, c_hasTicket K, Option.bind_some]
  rcases tick_cases a h8 with ⟨t, ht, rfl, hi⟩ | hi
  · obtain ⟨z1, z2, z3, z4, z5, T⟩ := c_tkat K ht
    rw [z1, if_neg (show ¬ (1 : Int32) = 0 by decide), if_neg (show ¬ (1 : Int32) = 0 by decide), z2, fg_t z3, fg_t z4, z5, fg_t T.1.1, T.2.1.2.2.2.2.1]
    rcases T.2.2.2.2.2.2.1 with c | c
    · rw [if_pos c, if_neg (show ¬ aT A t 10 = 1 by rw [c]; decide)]
      obtain ⟨g1, g2, g3⟩ := K.tick ht (Fr.sI _ _ _ _ _ (bl_in (by omega) (by omega))) (T.1.num (by decide)) (T.2.1.torn T.h6 1) ((onlyT.rf A t).uT (by omega) 1)
      exact CA.ok g3 g1 g2
    · rw [if_neg (show ¬ aT A t 10 = 0 by rw [c]; decide), if_pos c, c_refuse x1, Option.bind_some]
      exact CA.no rfl (by decide)
  · rw [hn, hi, if_pos rfl, if_pos rfl]
    exact CA.bad1
theorem h2c (h : Nat) (hh : h < 2) {z : Int32} (hz : zz z = nI h) : (h = 0 ∧ z = 0) ∨ (h = 1 ∧ ¬ z = 0) := by
  unfold zz at hz
  rcases (show h = 0 ∨ h = 1 by omega) with rfl | rfl
  · refine Or.inl ⟨rfl, ?_⟩
    by_cases c : z = 0
    · exact c
    · rw [if_neg c] at hz
      exact absurd hz (by decide)
  · refine Or.inr ⟨rfl, fun c => ?_⟩
    rw [if_pos c] at hz
    exact absurd hz (by decide)
/-- the other half -/
theorem c_half' {τ t : Nat} (T : TK w τ A t) {h : Nat} (hh : h < 2) {z : Int32} (hz : zz z = nI h) : (if z = 0 then some (1 : Int32) else some 0) = some (if z = 0 then 1 else 0) ∧ zz (if z = 0 then 1 else 0) = nI (1 - h) := by
  refine ⟨ite_some _ _, ?_⟩
  rcases h2c h hh hz with ⟨rfl, c⟩ | ⟨rfl, c⟩
  · rw [if_pos c]; rfl
  · rw [if_neg c]; rfl
theorem half_sI {τ c a i : Nat} {v z : Int32} : F_X2_half τ z (sI w c a i v) = F_X2_half τ z w := rfl
theorem t_lost (X : XO w x o A) (a : Int32) {h : Nat} (hh : h < 2) {z : Int32} (hz : zz z = nI h) {v : Int32} (hv : v = 0 ∨ v = 1) : CA w x o 1 (sLost a h v A) (F_X4_tryLost x a z v w) := by
  obtain ⟨x1, x2, K⟩ := X
  obtain ⟨hn, h8, hT⟩ := K.2.2.n
  unfold F_X4_tryLost sLost
  rw [fg_t x1, x2, fg_t K.1.1, c_hasTicket K, Option.bind_some]
  rcases tick_cases a h8 with ⟨t, ht, rfl, hi⟩ | hi
  · obtain ⟨z1, z2, z3, z4, z5, T⟩ := c_tkat K ht
    have H := T.h hh
    obtain ⟨y1, y2⟩ := c_half' T hh hz
    rw [z1, if_neg (show ¬ (1 : Int32) = 0 by decide), if_neg (show ¬ (1 : Int32) = 0 by decide), z2, fg_t z3, fg_t z4, z5, fg_t T.1.1, c_half T hh hz, Option.bind_some, fg_t H.1, H.2.1.2.2.2.1, c_refuse x1, Option.bind_some, Option.bind_some, fg_t H.1, fg_t hv]
    by_cases c : aH A t h 2 = v
    · rw [if_pos c, if_pos c]
      exact CA.no rfl (by decide)
    have e204 : gI (sI w 3 (gR w 604 (o + 1) t + 3 + h) 0 v) 204 (gR w 604 (o + 1) t) 0 = aT A t 10 := by
      rw [gI_sI, if_neg (fun y => absurd y.1 (by decide))]
      exact T.2.1.2.2.2.2.1
    rw [if_neg c, if_neg c, e204, y1, Option.bind_some, half_sI, c_half T (show 1 - h < 2 by omega) y2, Option.bind_some, fg_t (T.h (show 1 - h < 2 by omega)).1, fg_t hv]
    have R1 := T.2.1.half T.h6 hh (c := 3) (e := 2) (by omega) v
    have L1 : aLen (up A (iH t h 2) v) t ≤ 6 := by rw [aLen_upH]; exact T.h6
    by_cases c2 : aT A t 10 = 0
    · have R2 := R1.half L1 (show 1 - h < 2 by omega) (c := 3) (e := 2) (by omega) v
      have e2 : lostA t h v A = up (up A (iH t h 2) v) (iH t (1 - h) 2) v := if_pos c2
      rw [if_pos c2, e2]
      obtain ⟨g1, g2, g3⟩ := K.tick ht ((Fr.sI _ _ _ _ _ (bl_in (by omega) (by omega))).tr (Fr.sI _ _ _ _ _ (bl_in (by omega) (by omega)))) ((T.1.num (by decide)).num (by decide)) R2 (((onlyT.rf A t).uH hh (by omega) v).uH (by omega) (by omega) v)
      exact CA.ok g3 g1 g2
    · have e2 : lostA t h v A = up A (iH t h 2) v := if_neg c2
      rw [if_neg c2, e2]
      obtain ⟨g1, g2, g3⟩ := K.tick ht (Fr.sI _ _ _ _ _ (bl_in (by omega) (by omega))) (T.1.num (by decide)) R1 ((onlyT.rf A t).uH hh (by omega) v)
      exact CA.ok g3 g1 g2
  · rw [hn, hi, if_pos rfl, if_pos rfl]
    exact CA.bad1
end CK
