/-! Arrays stay well-formed; the class punches, wets, rides -/
theorem WA.tick {A A' : Nat → Int32} {t : Nat} (hA : WA A) (ho : onlyT A A' t) (hw : WTk A' t) : WA A' := by
  obtain ⟨⟨n, h1, h2, h3⟩, ⟨m, m1, m2, m3, m4⟩, hm, ⟨b, b1, b2⟩, ⟨d, d1, d2⟩⟩ := hA
  have lo : ∀ i, i < 17 → A' i = A i := fun i hi => ho i (by omega)
  refine ⟨⟨n, h1, (lo 0 (by omega)).trans h2, fun u hu => ?_⟩, ⟨m, m1, (lo 10 (by omega)).trans m2, fun k hk => by rw [lo (11 + k) (by omega)]; exact m3 k hk, fun k k1 k2 => by rw [lo (11 + k) (by omega)]; exact m4 k k1 k2⟩, fun p hp => by rw [lo (7 + p) (by omega)]; exact hm p hp, ⟨b, b1, (lo 6 (by omega)).trans b2⟩, ⟨d, d1, (lo 1 (by omega)).trans d2⟩⟩
  by_cases c : u = t
  · rw [c]; exact hw
  · exact (h3 u hu).to (fun e he => ho _ (by omega))
theorem WA.n1 {A : Nat → Int32} (hA : WA A) {j : Nat} (hj : 2 ≤ j ∧ j ≤ 5) (v : Int32) : WA (up A j v) := by
  obtain ⟨⟨n, h1, h2, h3⟩, ⟨m, m1, m2, m3, m4⟩, hm, ⟨b, b1, b2⟩, ⟨d, d1, d2⟩⟩ := hA
  have e : ∀ i, ¬ i = j → up A j v i = A i := fun i hi => up_n hi
  refine ⟨⟨n, h1, (e 0 (by omega)).trans h2, fun u hu => (h3 u hu).to (fun k hk => e _ (by omega))⟩, ⟨m, m1, (e 10 (by omega)).trans m2, fun k hk => by rw [e (11 + k) (by omega)]; exact m3 k hk, fun k k1 k2 => by rw [e (11 + k) (by omega)]; exact m4 k k1 k2⟩, fun p hp => by rw [e (7 + p) (by omega)]; exact hm p hp, ⟨b, b1, (e 6 (by omega)).trans b2⟩, ⟨d, d1, (e 1 (by omega)).trans d2⟩⟩
theorem WA.day {A : Nat → Int32} (hA : WA A) {d : Nat} (hd : d < 100000) : WA (up A 1 (nI d)) := by
  obtain ⟨⟨n, h1, h2, h3⟩, ⟨m, m1, m2, m3, m4⟩, hm, ⟨b, b1, b2⟩, -⟩ := hA
  have e : ∀ i, ¬ i = 1 → up A 1 (nI d) i = A i := fun i hi => up_n hi
  refine ⟨⟨n, h1, (e 0 (by omega)).trans h2, fun u hu => (h3 u hu).to (fun k hk => e _ (by omega))⟩, ⟨m, m1, (e 10 (by omega)).trans m2, fun k hk => by rw [e (11 + k) (by omega)]; exact m3 k hk, fun k k1 k2 => by rw [e (11 + k) (by omega)]; exact m4 k k1 k2⟩, fun p hp => by rw [e (7 + p) (by omega)]; exact hm p hp, ⟨b, b1, (e 6 (by omega)).trans b2⟩, ⟨d, hd, up_s _ _ _⟩⟩
/-- a ticket's entries behind a change: what is kept and what is new -/
theorem WTk.mk' {A A' : Nat → Int32} {t : Nat} (h : WTk A t) (hlo : ∀ e, e < 10 → aT A' t e = aT A t e) (h10 : aT A' t 10 = 0 ∨ aT A' t 10 = 1) (h11 : aT A' t 11 = -1 ∨ ∃ d, d < 100000 ∧ aT A' t 11 = nI d) (hH : ∀ k, k < 2 → (aH A' t k 0 = -1 ∨ ∃ m, m < 5 ∧ aH A' t k 0 = nI m) ∧ (∃ g, g < 10 ∧ aH A' t k 1 = nI g) ∧ (aH A' t k 2 = 0 ∨ aH A' t k 2 = 1) ∧ (aH A' t k 3 = 0 ∨ aH A' t k 3 = 1)) (hi : aH A' t 0 3 = 1 ↔ ¬ aT A' t 11 = -1) : WTk A' t := by
  obtain ⟨⟨n, a1, a2, a3, a4, a5⟩, b, c, d, -, -, -, -⟩ := h
  have eL : ∀ k, k < 6 → aL A' t k = aL A t k := fun k hk => hlo (1 + k) (by omega)
  exact ⟨⟨n, a1, a2, by rw [hlo 0 (by omega)]; exact a3, fun k hk => by rw [eL k (by omega)]; exact a4 k hk, fun k h1 h2 => by rw [eL k h2]; exact a5 k h1 h2⟩, by rw [hlo 7 (by omega)]; exact b, by rw [hlo 8 (by omega)]; exact c, by rw [hlo 9 (by omega)]; exact d, h10, h11, hH, hi⟩
theorem WTk.torn {A : Nat → Int32} {t : Nat} (h : WTk A t) {v : Int32} (hv : v = 0 ∨ v = 1) : WTk (up A (17 + 20 * t + 10) v) t := by
  have hH : ∀ k e, k < 2 → e < 4 → aH (up A (17 + 20 * t + 10) v) t k e = aH A t k e := fun k e h1 h2 => aH_upT A t k v (by omega)
  refine h.mk' (fun e he => by rw [aT_up, if_neg (by omega)]) (by rw [aT_up, if_pos rfl]; exact hv) (by rw [aT_up, if_neg (by omega)]; exact h.2.2.2.2.2.1) (fun k hk => ?_) ?_
  · rw [hH k 0 hk (by omega), hH k 1 hk (by omega), hH k 2 hk (by omega), hH k 3 hk (by omega)]
    exact h.2.2.2.2.2.2.1 k hk
  · rw [hH 0 3 (by omega) (by omega), aT_up, if_neg (by omega)]
    exact h.2.2.2.2.2.2.2
theorem WTk.half {A : Nat → Int32} {t h e : Nat} (H : WTk A t) (hh : h < 2) (he : e < 4) {v : Int32} (h0 : e = 0 → v = -1 ∨ ∃ m, m < 5 ∧ v = nI m) (h1 : e = 1 → ∃ g, g < 10 ∧ v = nI g) (h2 : e = 2 → v = 0 ∨ v = 1) (h3 : e = 3 → h = 1 ∧ (v = 0 ∨ v = 1)) : WTk (up A (iH t h e) v) t := by
  refine H.mk' (fun e' he' => aT_upH A t v (by omega)) (by rw [aT_upH A t v (by omega)]; exact H.2.2.2.2.1) (by rw [aT_upH A t v (by omega)]; exact H.2.2.2.2.2.1) (fun k hk => ?_) ?_
  · obtain ⟨w0, w1, w2, w3⟩ := H.2.2.2.2.2.2.1 k hk
    rw [aH_up A t he (by omega), aH_up A t he (by omega), aH_up A t he (by omega), aH_up A t he (by omega)]
    refine ⟨?_, ?_, ?_, ?_⟩
    · by_cases c : k = h ∧ 0 = e
      · rw [if_pos c]; exact h0 c.2.symm
      · rw [if_neg c]; exact w0
    · by_cases c : k = h ∧ 1 = e
      · rw [if_pos c]; exact h1 c.2.symm
      · rw [if_neg c]; exact w1
    · by_cases c : k = h ∧ 2 = e
      · rw [if_pos c]; exact h2 c.2.symm
      · rw [if_neg c]; exact w2
    · by_cases c : k = h ∧ 3 = e
      · rw [if_pos c]; exact (h3 c.2.symm).2
      · rw [if_neg c]; exact w3
  · rw [aT_upH A t v (by omega), aH_up A t he (by omega), if_neg ?_]
    · exact H.2.2.2.2.2.2.2
    · intro z
      have := (h3 z.2.symm).1
      omega
theorem WTk.rode {A : Nat → Int32} {t d : Nat} (H : WTk A t) (hd : d < 100000) : WTk (up (up A (iH t 0 3) 1) (17 + 20 * t + 11) (nI d)) t := by
  have nd : ¬ nI d = -1 := by
    intro z
    have := congrArg Int32.toInt z
    rw [nI_toInt (by omega), show (-1 : Int32).toInt = -1 from by decide] at this
    omega
  have hH : ∀ k e, k < 2 → e < 4 → aH (up (up A (iH t 0 3) 1) (17 + 20 * t + 11) (nI d)) t k e = if k = 0 ∧ e = 3 then 1 else aH A t k e := fun k e h1 h2 => by
    rw [aH_upT _ t k _ (by omega), aH_up A t (by omega) h2]
  refine H.mk' (fun e he => by rw [aT_up, if_neg (by omega), aT_upH A t _ (by omega)]) (by rw [aT_up, if_neg (by omega), aT_upH A t _ (by omega)]; exact H.2.2.2.2.1) (by rw [aT_up, if_pos rfl]; exact Or.inr ⟨d, hd, rfl⟩) (fun k hk => ?_) ?_
  · obtain ⟨w0, w1, w2, w3⟩ := H.2.2.2.2.2.2.1 k hk
    rw [hH k 0 hk (by omega), hH k 1 hk (by omega), hH k 2 hk (by omega), hH k 3 hk (by omega), if_neg (by omega), if_neg (by omega), if_neg (by omega)]
    refine ⟨w0, w1, w2, ?_⟩
    split
    · exact Or.inr rfl
    · exact w3
  · rw [hH 0 3 (by omega) (by omega), if_pos ⟨rfl, rfl⟩, aT_up, if_pos rfl]
    exact ⟨fun _ => nd, fun _ => rfl⟩
theorem sI_comm (w : FW) {c a i c' a' i' : Nat} (h : ¬ c = c' ∨ ¬ a = a' ∨ ¬ i = i') (v v' : Int32) : sI (sI w c a i v) c' a' i' v' = sI (sI w c' a' i' v') c a i v := by
  unfold sI
  congr 3
  funext c2 a2 i2
  show (if c2 = c' ∧ a2 = a' ∧ i2 = i' then v' else if c2 = c ∧ a2 = a ∧ i2 = i then v else w.2.2.1 c2 a2 i2) = (if c2 = c ∧ a2 = a ∧ i2 = i then v else if c2 = c' ∧ a2 = a' ∧ i2 = i' then v' else w.2.2.1 c2 a2 i2)
  by_cases h1 : c2 = c' ∧ a2 = a' ∧ i2 = i'
  · have h2 : ¬ (c2 = c ∧ a2 = a ∧ i2 = i) := by
      obtain ⟨rfl, rfl, rfl⟩ := h1
      intro z
      obtain ⟨rfl, rfl, rfl⟩ := z
      simp at h
    rw [if_pos h1, if_neg h2, if_pos h1]
  · rw [if_neg h1, if_neg h1]
section CL
variable {w : FW} {x o : Nat} {A : Nat → Int32}
theorem t_punch (X : XO w x o A) (a : Int32) {h : Nat} (hh : h < 2) {z : Int32} (hz : zz z = nI h) (p : Int32) : CA w x o 1 (sPunch a h p A) (F_X4_tryPunch x a z p w) := by
  obtain ⟨x1, x2, K⟩ := X
  obtain ⟨k1, k2, l1, k3, l2, k4, l3, r1, r2, r3, r4⟩ := K.s
  obtain ⟨hn, h8, hT⟩ := K.2.2.n
  unfold F_X4_tryPunch sPunch
  rw [fg_t x1, x2, fg_t K.1.1, c_hasTicket K, Option.bind_some]
  rcases tick_cases a h8 with ⟨t, ht, rfl, hi⟩ | hi
  · obtain ⟨z1, z2, z3, z4, z5, T⟩ := c_tkat K ht
    have H := T.h hh
    rw [z1, if_neg (show ¬ (1 : Int32) = 0 by decide), if_neg (show ¬ (1 : Int32) = 0 by decide), c_isPuncher, Option.bind_some]
    by_cases hp : inn p 0 2 = 0
    · rw [if_pos hp, if_pos hp]
      exact CA.bad1
    obtain ⟨j, -, hj, rfl⟩ := inn_1 (a := 0) (b := 2) (by omega) (by omega) hp
    have e1 := nI_clamp (n := j) (by omega)
    rw [if_neg hp, if_neg hp, z2, fg_t z3, fg_t z4, z5, fg_t T.1.1, c_half T hh hz, Option.bind_some, fg_t H.1, H.2.1.1, c_refuse x1, Option.bind_some, r3, fg_t k3, fg_t (by rw [l2]; exact nI_in (by omega) (by omega)), e1]
    by_cases c : aH A t h 0 = -1
    · rw [if_pos (pun_0.mpr c), if_pos c]
      obtain ⟨m, hm, em⟩ := K.2.2.2.2.1 j (by omega)
      have nm : ¬ A (7 + j) = -1 := by
        rw [em]
        intro z
        have := congrArg Int32.toInt z
        rw [nI_toInt (by omega), show (-1 : Int32).toInt = -1 from by decide] at this
        omega
      have ev : gI (sI w 0 (gR w 604 (o + 1) t + 3 + h) 0 1) 601 (gR (sI w 0 (gR w 604 (o + 1) t + 3 + h) 0 1) 103 (gR (sI w 0 (gR w 604 (o + 1) t + 3 + h) 0 1) 400 x 0) 0) j = A (7 + j) := by
        rw [gI_sI, if_neg (fun y => absurd y.1 (by decide)), gR_sI, gR_sI, x2, r3]
        exact K.2.1.2.2.2.2.2.2.1 j (by omega)
      rw [ev, gR_sI, gR_sI, gR_sI, gR_sI, T.w.2.2.1, x2]
      have R1 := T.2.1.punch T.h6 hh nm
      have S1 : TS (sI (sI w 0 (gR w 604 (o + 1) t + 3 + h) 0 1) 1 (gR w 604 (o + 1) t + 3 + h) 0 (A (7 + j))) (gR w 604 (o + 1) t) := (T.1.num (by decide)).num (by decide)
      have W1 : WTk (up A (iH t h 0) (A (7 + j))) t := T.2.2.half hh (by omega) (fun _ => Or.inr ⟨m, hm, em⟩) (fun y => absurd y (by decide)) (fun y => absurd y (by decide)) (fun y => absurd y (by decide))
      have ho := (onlyT.rf A t).uH hh (show 0 < 4 by omega) (A (7 + j))
      obtain ⟨g1, g2, g3⟩ := K.tick ht ((Fr.sI _ _ _ _ _ (bl_in (by omega) (by omega))).tr (Fr.sI _ _ _ _ _ (bl_in (by omega) (by omega)))) S1 R1 ho
      have T1 : TK (sI (sI w 0 (gR w 604 (o + 1) t + 3 + h) 0 1) 1 (gR w 604 (o + 1) t + 3 + h) 0 (A (7 + j))) (gR w 604 (o + 1) t) (up A (iH t h 0) (A (7 + j))) t := ⟨S1, R1, W1⟩
      have K1 : KO (sI (sI w 0 (gR w 604 (o + 1) t + 3 + h) 0 1) 1 (gR w 604 (o + 1) t + 3 + h) 0 (A (7 + j))) o (up A (iH t h 0) (A (7 + j))) := ⟨g1, g2, K.2.2.tick ho W1⟩
      have e5 : gI (sI (sI w 0 (gR w 604 (o + 1) t + 3 + h) 0 1) 1 (gR w 604 (o + 1) t + 3 + h) 0 (A (7 + j))) 109 o 0 = A 5 := K1.2.1.2.2.2.2.2.1.trans (ho 5 (by omega))
      rw [c_holesOf (T1.h hh), Option.bind_some, e5]
      obtain ⟨u1, u2⟩ := K1.2.1.n1 K1.1 K1.2.2 (c := 109) (j := 5) (by omega) (A 5 + aHolesOf (up A (iH t h 0) (A (7 + j))) t h)
      exact CA.ok (g3.tr (Fr.sI _ _ _ _ _ (bl_in (by omega) (by omega)))) u1 u2
    · rw [if_neg (fun y => c (pun_0.mp y)), if_neg c]
      exact CA.no rfl (by decide)
  · rw [hn, hi, if_pos rfl, if_pos rfl]
    exact CA.bad1
theorem t_ride (X : XO w x o A) (a : Int32) {h : Nat} (hh : h < 2) {z : Int32} (hz : zz z = nI h) : CA w x o 1 (sRide a h A) (F_X4_tryRide x a z w) := by
  obtain ⟨x1, x2, K⟩ := X
  obtain ⟨hn, h8, hT⟩ := K.2.2.n
  unfold F_X4_tryRide sRide
  rw [fg_t x1, x2, fg_t K.1.1, c_hasTicket K, Option.bind_some]
  rcases tick_cases a h8 with ⟨t, ht, rfl, hi⟩ | hi
  · obtain ⟨z1, z2, z3, z4, z5, T⟩ := c_tkat K ht
    have H := T.h hh
    rw [z1, if_neg (show ¬ (1 : Int32) = 0 by decide), if_neg (show ¬ (1 : Int32) = 0 by decide), z2, fg_t z3, fg_t z4, z5, c_hindrance K ht hh hz, Option.bind_some]
    rcases hind_cases t h A with ⟨c, -⟩ | ⟨c1, c2, c3⟩
    · rw [if_pos c, if_pos (show (sHind t h A).1 ≤ 0 by rw [c]; decide), fg_t T.1.1, c_half T hh hz, Option.bind_some, fg_t H.1]
      rcases h2c h hh hz with ⟨rfl, hz0⟩ | ⟨rfl, hz0⟩
      · rw [if_pos hz0]
        obtain ⟨d, hd, e1⟩ := K.2.2.2.2.2.2
        have eR : rideA t 0 A = up (up (up A (iH t 0 3) 1) (17 + 20 * t + 11) (A 1)) 3 (A 3 + 1) := if_pos rfl
        rw [eR]
        -- the half, the day of the ticket, then the account
        have R1 := T.2.1.half T.h6 (show 0 < 2 by omega) (c := 4) (e := 3) (by omega) 1
        have L1 : aLen (up A (iH t 0 3) 1) t ≤ 6 := by rw [aLen_upH]; exact T.h6
        have R2 := R1.outday L1 (A 1)
        have S2 : TS (sI (sI w 4 (gR w 604 (o + 1) t + 3 + 0) 0 1) 205 (gR w 604 (o + 1) t) 0 (A 1)) (gR w 604 (o + 1) t) := (T.1.num (by decide)).num (by decide)
        have W2 : WTk (up (up A (iH t 0 3) 1) (17 + 20 * t + 11) (A 1)) t := by rw [e1]; exact T.2.2.rode hd
        have ho := ((onlyT.rf A t).uH (show 0 < 2 by omega) (show 3 < 4 by omega) 1).uT (show 11 < 20 by omega) (A 1)
        obtain ⟨g1, g2, g3⟩ := K.tick ht ((Fr.sI _ _ _ _ _ (bl_in (by omega) (by omega))).tr (Fr.sI _ _ _ _ _ (bl_in (by omega) (by omega)))) S2 R2 ho
        have K2 : KO (sI (sI w 4 (gR w 604 (o + 1) t + 3 + 0) 0 1) 205 (gR w 604 (o + 1) t) 0 (A 1)) o (up (up A (iH t 0 3) 1) (17 + 20 * t + 11) (A 1)) := ⟨g1, g2, K.2.2.tick ho W2⟩
        obtain ⟨u1, u2⟩ := K2.2.1.n1 K2.1 K2.2.2 (c := 107) (j := 3) (by omega) (A 3 + 1)
        have eW : sI (sI (sI w 4 (gR w 604 (o + 1) t + 3 + 0) 0 1) 107 (gR (sI w 4 (gR w 604 (o + 1) t + 3 + 0) 0 1) 400 x 0) 0 (gI (sI w 4 (gR w 604 (o + 1) t + 3 + 0) 0 1) 107 (gR (sI w 4 (gR w 604 (o + 1) t + 3 + 0) 0 1) 400 x 0) 0 + 1)) 205 (gR w 604 (o + 1) t) 0 (gI (sI (sI w 4 (gR w 604 (o + 1) t + 3 + 0) 0 1) 107 (gR (sI w 4 (gR w 604 (o + 1) t + 3 + 0) 0 1) 400 x 0) 0 (gI (sI w 4 (gR w 604 (o + 1) t + 3 + 0) 0 1) 107 (gR (sI w 4 (gR w 604 (o + 1) t + 3 + 0) 0 1) 400 x 0) 0 + 1)) 105 (gR (sI (sI w 4 (gR w 604 (o + 1) t + 3 + 0) 0 1) 107 (gR (sI w 4 (gR w 604 (o + 1) t + 3 + 0) 0 1) 400 x 0) 0 (gI (sI w 4 (gR w 604 (o + 1) t + 3 + 0) 0 1) 107 (gR (sI w 4 (gR w 604 (o + 1) t + 3 + 0) 0 1) 400 x 0) 0 + 1)) 400 x 0) 0) = sI (sI (sI w 4 (gR w 604 (o + 1) t + 3 + 0) 0 1) 205 (gR w 604 (o + 1) t) 0 (A 1)) 107 o 0 (A 3 + 1) := by
          have q1 : gR (sI w 4 (gR w 604 (o + 1) t + 3 + 0) 0 1) 400 x 0 = o := x2
          have q2 : gI (sI w 4 (gR w 604 (o + 1) t + 3 + 0) 0 1) 107 o 0 = A 3 := by rw [gI_sI, if_neg (fun y => absurd y.1 (by decide))]; exact K.2.1.2.2.2.1
          rw [q1, q2]
          have q3 : gR (sI (sI w 4 (gR w 604 (o + 1) t + 3 + 0) 0 1) 107 o 0 (A 3 + 1)) 400 x 0 = o := x2
          have q4 : gI (sI (sI w 4 (gR w 604 (o + 1) t + 3 + 0) 0 1) 107 o 0 (A 3 + 1)) 105 o 0 = A 1 := by rw [gI_sI, if_neg (fun y => absurd y.1 (by decide)), gI_sI, if_neg (fun y => absurd y.1 (by decide))]; exact K.2.1.2.1
          rw [q3, q4]
          exact sI_comm _ (Or.inl (by decide)) _ _
        rw [eW]
        exact CA.ok (g3.tr (Fr.sI _ _ _ _ _ (bl_in (by omega) (by omega)))) u1 u2
      · rw [if_neg hz0]
        have eR : rideA t 1 A = up (up A (iH t 1 3) 1) 4 (A 4 + 1) := if_neg (by decide)
        rw [eR]
        have R1 := T.2.1.half T.h6 (show 1 < 2 by omega) (c := 4) (e := 3) (by omega) 1
        have S1 : TS (sI w 4 (gR w 604 (o + 1) t + 3 + 1) 0 1) (gR w 604 (o + 1) t) := T.1.num (by decide)
        have W1 : WTk (up A (iH t 1 3) 1) t := T.2.2.half (by omega) (by omega) (fun y => absurd y (by decide)) (fun y => absurd y (by decide)) (fun y => absurd y (by decide)) (fun _ => ⟨rfl, Or.inr rfl⟩)
        have ho := (onlyT.rf A t).uH (show 1 < 2 by omega) (show 3 < 4 by omega) 1
        obtain ⟨g1, g2, g3⟩ := K.tick ht (Fr.sI _ _ _ _ _ (bl_in (by omega) (by omega))) S1 R1 ho
        have K1 : KO (sI w 4 (gR w 604 (o + 1) t + 3 + 1) 0 1) o (up A (iH t 1 3) 1) := ⟨g1, g2, K.2.2.tick ho W1⟩
        obtain ⟨u1, u2⟩ := K1.2.1.n1 K1.1 K1.2.2 (c := 108) (j := 4) (by omega) (A 4 + 1)
        have q1 : gR (sI w 4 (gR w 604 (o + 1) t + 3 + 1) 0 1) 400 x 0 = o := x2
        have q2 : gI (sI w 4 (gR w 604 (o + 1) t + 3 + 1) 0 1) 108 o 0 = A 4 := K1.2.1.2.2.2.2.1.trans (ho 4 (by omega))
        rw [q1, q2]
        exact CA.ok (g3.tr (Fr.sI _ _ _ _ _ (bl_in (by omega) (by omega)))) u1 u2
    · rw [if_neg c3, if_neg c1, c_detail K ht hh hz c3, Option.bind_some, c_refuse x1, Option.bind_some]
      exact CA.no rfl (by rw [Int32.le_iff_toInt_le] at c1; rw [Int32.lt_iff_toInt_lt]; omega)
  · rw [hn, hi, if_pos rfl, if_pos rfl]
    exact CA.bad1
end CL
