/-! Arrays stay well-formed behind every act; the day stays but for a day -/
/-- what an act leaves is well-formed, and its day is d -/
def GD (A : Nat → Int32) (r : Out) : Prop := WA r.2.2 ∧ r.2.2 1 = A 1
theorem GD.same {A : Nat → Int32} (hA : WA A) (a b : Int32) : GD A (a, b, A) := ⟨hA, rfl⟩
theorem WA.low {A A' : Nat → Int32} (hA : WA A) (h0 : A' 0 = A 0) (h1 : A' 1 = A 1) (hhi : ∀ i, 17 ≤ i → A' i = A i) (hd : ∃ n, n ≤ 6 ∧ A' 10 = nI n ∧ (∀ k, k < n → isLet (A' (11 + k)) = 1) ∧ ∀ k, n ≤ k → k < 6 → A' (11 + k) = 0) (hm : ∀ p, p < 3 → ∃ m, m < 5 ∧ A' (7 + p) = nI m) (hb : ∃ b, b < 32 ∧ A' 6 = nI b) : WA A' := by
  obtain ⟨⟨n, a1, a2, a3⟩, -, -, -, ⟨d, d1, d2⟩⟩ := hA
  exact ⟨⟨n, a1, h0.trans a2, fun u hu => (a3 u hu).to (fun e he => hhi _ (by omega))⟩, hd, hm, hb, ⟨d, d1, h1.trans d2⟩⟩
theorem g_letter {A : Nat → Int32} (hA : WA A) (c : Int32) : GD A (sLetter c A) := by
  unfold sLetter
  by_cases hl : isLet c = 0
  · rw [if_pos hl]
    exact GD.same hA _ _
  rw [if_neg hl]
  obtain ⟨n, n1, n2, n3, n4⟩ := hA.2.1
  by_cases h9 : A 10 = 6
  · rw [if_pos h9]
    exact GD.same hA _ _
  rw [if_neg h9, n2, nI_clamp (show n < 2 ^ 31 by omega), nI_1]
  have h6 : n < 6 := by
    by_cases z : n = 6
    · rw [n2, z] at h9
      exact absurd rfl h9
    · omega
  refine ⟨?_, ?_⟩
  · refine hA.low ?_ ?_ (fun i hi => ?_) ⟨n + 1, h6, ?_, fun k hk => ?_, fun k k1 k2 => ?_⟩ (fun p hp => ?_) ?_
    · show up (up A (11 + n) c) 10 (nI (n + 1)) 0 = A 0
      rw [up_n (by omega), up_n (by omega)]
    · show up (up A (11 + n) c) 10 (nI (n + 1)) 1 = A 1
      rw [up_n (by omega), up_n (by omega)]
    · show up (up A (11 + n) c) 10 (nI (n + 1)) i = A i
      rw [up_n (by omega), up_n (by omega)]
    · show up (up A (11 + n) c) 10 (nI (n + 1)) 10 = _
      exact up_s _ _ _
    · show isLet (up (up A (11 + n) c) 10 (nI (n + 1)) (11 + k)) = 1
      rw [up_n (by omega)]
      by_cases z : k = n
      · rw [z, up_s]
        exact (isLet_01 c).resolve_left hl
      · rw [up_n (by omega)]
        exact n3 k (by omega)
    · show up (up A (11 + n) c) 10 (nI (n + 1)) (11 + k) = 0
      rw [up_n (by omega), up_n (by omega)]
      exact n4 k (by omega) k2
    · show ∃ m, m < 5 ∧ up (up A (11 + n) c) 10 (nI (n + 1)) (7 + p) = nI m
      rw [up_n (by omega), up_n (by omega)]
      exact hA.2.2.1 p hp
    · show ∃ b, b < 32 ∧ up (up A (11 + n) c) 10 (nI (n + 1)) 6 = nI b
      rw [up_n (by omega), up_n (by omega)]
      exact hA.2.2.2.1
  · show up (up A (11 + n) c) 10 (nI (n + 1)) 1 = A 1
    rw [up_n (by omega), up_n (by omega)]
theorem g_unletter {A : Nat → Int32} (hA : WA A) : GD A (sUnletter A) := by
  unfold sUnletter
  obtain ⟨n, n1, n2, n3, n4⟩ := hA.2.1
  by_cases h9 : A 10 = 0
  · rw [if_pos h9]
    exact GD.same hA _ _
  rw [if_neg h9, n2, nI_clamp (show n < 2 ^ 31 by omega)]
  cases n with
  | zero => exact absurd n2 h9
  | succ n =>
    rw [nI_pred]
    refine ⟨?_, ?_⟩
    · refine hA.low ?_ ?_ (fun i hi => ?_) ⟨n, by omega, ?_, fun k hk => ?_, fun k k1 k2 => ?_⟩ (fun p hp => ?_) ?_
      · show up (up A (10 + (n + 1)) 0) 10 (nI n) 0 = A 0
        rw [up_n (by omega), up_n (by omega)]
      · show up (up A (10 + (n + 1)) 0) 10 (nI n) 1 = A 1
        rw [up_n (by omega), up_n (by omega)]
      · show up (up A (10 + (n + 1)) 0) 10 (nI n) i = A i
        rw [up_n (by omega), up_n (by omega)]
      · show up (up A (10 + (n + 1)) 0) 10 (nI n) 10 = _
        exact up_s _ _ _
      · show isLet (up (up A (10 + (n + 1)) 0) 10 (nI n) (11 + k)) = 1
        rw [up_n (by omega), up_n (by omega)]
        exact n3 k (by omega)
      · show up (up A (10 + (n + 1)) 0) 10 (nI n) (11 + k) = 0
        rw [up_n (by omega)]
        by_cases z : k = n
        · rw [z, show 10 + (n + 1) = 11 + n by omega, up_s]
        · rw [up_n (by omega)]
          exact n4 k (by omega) k2
      · show ∃ m, m < 5 ∧ up (up A (10 + (n + 1)) 0) 10 (nI n) (7 + p) = nI m
        rw [up_n (by omega), up_n (by omega)]
        exact hA.2.2.1 p hp
      · show ∃ b, b < 32 ∧ up (up A (10 + (n + 1)) 0) 10 (nI n) 6 = nI b
        rw [up_n (by omega), up_n (by omega)]
        exact hA.2.2.2.1
    · show up (up A (10 + (n + 1)) 0) 10 (nI n) 1 = A 1
      rw [up_n (by omega), up_n (by omega)]
theorem g_mood {A : Nat → Int32} (hA : WA A) (p m : Int32) : GD A (sMood p m A) := by
  unfold sMood
  by_cases hp : inn p 0 2 = 0
  · rw [if_pos hp]
    exact GD.same hA _ _
  rw [if_neg hp]
  by_cases hm : inn m 0 4 = 0
  · rw [if_pos hm]
    exact GD.same hA _ _
  rw [if_neg hm]
  by_cases hw : A (7 + p.toNatClampNeg) = m
  · rw [if_pos hw]
    exact GD.same hA _ _
  rw [if_neg hw]
  obtain ⟨j, -, hj, rfl⟩ := inn_1 (a := 0) (b := 2) (by omega) (by omega) hp
  obtain ⟨q, -, hq, rfl⟩ := inn_1 (a := 0) (b := 4) (by omega) (by omega) hm
  rw [nI_clamp (show j < 2 ^ 31 by omega)]
  obtain ⟨n, n1, n2, n3, n4⟩ := hA.2.1
  show WA (up A (7 + j) (nI q)) ∧ up A (7 + j) (nI q) 1 = A 1
  refine ⟨?_, up_n (by omega)⟩
  refine hA.low (up_n (by omega)) (up_n (by omega)) (fun i hi => up_n (by omega)) ⟨n, n1, (up_n (by omega)).trans n2, fun k hk => by show isLet (up A (7 + j) (nI q) (11 + k)) = 1; rw [up_n (by omega)]; exact n3 k hk, fun k k1 k2 => (up_n (by omega)).trans (n4 k k1 k2)⟩ (fun r hr => ?_) ⟨_, hA.2.2.2.1.choose_spec.1, (up_n (by omega)).trans hA.2.2.2.1.choose_spec.2⟩
  show ∃ m, m < 5 ∧ up A (7 + j) (nI q) (7 + r) = nI m
  by_cases z : r = j
  · rw [z, up_s]
    exact ⟨q, by omega, rfl⟩
  · rw [up_n (by omega)]
    exact hA.2.2.1 r hr
theorem g_pier {A : Nat → Int32} (hA : WA A) (p z : Int32) : GD A (sPier p z A) := by
  unfold sPier
  by_cases hp : inn p 0 4 = 0
  · rw [if_pos hp]
    exact GD.same hA _ _
  rw [if_neg hp]
  by_cases hw : aShut A p.toNatClampNeg = z
  · rw [if_pos hw]
    obtain ⟨j, -, hj, rfl⟩ := inn_1 (a := 0) (b := 4) (by omega) (by omega) hp
    obtain ⟨b, hb, e6⟩ := hA.2.2.2.1
    obtain ⟨n, n1, n2, n3, n4⟩ := hA.2.1
    show WA (up A 6 (A 6 ^^^ (1 <<< (nI j &&& 31)))) ∧ up A 6 (A 6 ^^^ (1 <<< (nI j &&& 31))) 1 = A 1
    refine ⟨?_, up_n (by omega)⟩
    refine hA.low (up_n (by omega)) (up_n (by omega)) (fun i hi => up_n (by omega)) ⟨n, n1, (up_n (by omega)).trans n2, fun k hk => ?_, fun k k1 k2 => (up_n (by omega)).trans (n4 k k1 k2)⟩ (fun r hr => ⟨_, (hA.2.2.1 r hr).choose_spec.1, (up_n (by omega)).trans (hA.2.2.1 r hr).choose_spec.2⟩) ?_
    · show isLet (up A 6 (A 6 ^^^ (1 <<< (nI j &&& 31))) (11 + k)) = 1
      rw [up_n (by omega)]
      exact n3 k hk
    · obtain ⟨y1, y2⟩ := shy b hb j (by omega)
      exact ⟨b ^^^ 2 ^ j, y2, (up_s _ _ _).trans (by rw [e6]; exact y1)⟩
  · rw [if_neg hw]
    exact GD.same hA _ _
theorem g_tear {A : Nat → Int32} (hA : WA A) (x : Int32) : GD A (sTear x A) := by
  obtain ⟨hn, h8, hT⟩ := hA.n
  unfold sTear
  rcases tick_cases x h8 with ⟨t, ht, rfl, hi⟩ | hi
  · rw [hn, hi, if_neg (show ¬ (1 : Int32) = 0 by decide), nI_clamp (by omega)]
    by_cases c : aT A t 10 = 1
    · rw [if_pos c]
      exact GD.same hA _ _
    · rw [if_neg c]
      show WA (up A (17 + 20 * t + 10) 1) ∧ up A (17 + 20 * t + 10) 1 1 = A 1
      exact ⟨hA.tick ((onlyT.rf A t).uT (by omega) 1) ((hT t ht).torn (Or.inr rfl)), up_n (by omega)⟩
  · rw [hn, hi, if_pos rfl]
    exact GD.same hA _ _
theorem g_lost {A : Nat → Int32} (hA : WA A) (x : Int32) {h : Nat} (hh : h < 2) {v : Int32} (hv : v = 0 ∨ v = 1) : GD A (sLost x h v A) := by
  obtain ⟨hn, h8, hT⟩ := hA.n
  unfold sLost
  rcases tick_cases x h8 with ⟨t, ht, rfl, hi⟩ | hi
  · rw [hn, hi, if_neg (show ¬ (1 : Int32) = 0 by decide), nI_clamp (by omega)]
    by_cases c : aH A t h 2 = v
    · rw [if_pos c]
      exact GD.same hA _ _
    · rw [if_neg c]
      have W1 : WTk (up A (iH t h 2) v) t := (hT t ht).half hh (by omega) (fun y => absurd y (by decide)) (fun y => absurd y (by decide)) (fun _ => hv) (fun y => absurd y (by decide))
      have O1 := (onlyT.rf A t).uH hh (show 2 < 4 by omega) v
      unfold lostA
      by_cases c2 : aT A t 10 = 0
      · rw [if_pos c2]
        refine ⟨hA.tick (O1.uH (show 1 - h < 2 by omega) (show 2 < 4 by omega) v) (W1.half (by omega) (by omega) (fun y => absurd y (by decide)) (fun y => absurd y (by decide)) (fun _ => hv) (fun y => absurd y (by decide))), ?_⟩
        show up (up A (iH t h 2) v) (iH t (1 - h) 2) v 1 = A 1
        rw [up_n (by unfold iH; omega), up_n (by unfold iH; omega)]
      · rw [if_neg c2]
        show WA (up A (iH t h 2) v) ∧ up A (iH t h 2) v 1 = A 1
        exact ⟨hA.tick O1 W1, up_n (by unfold iH; omega)⟩
  · rw [hn, hi, if_pos rfl]
    exact GD.same hA _ _
theorem g_punch {A : Nat → Int32} (hA : WA A) (x : Int32) {h : Nat} (hh : h < 2) (p : Int32) : GD A (sPunch x h p A) := by
  obtain ⟨hn, h8, hT⟩ := hA.n
  unfold sPunch
  rcases tick_cases x h8 with ⟨t, ht, rfl, hi⟩ | hi
  · rw [hn, hi, if_neg (show ¬ (1 : Int32) = 0 by decide), nI_clamp (by omega)]
    by_cases hp : inn p 0 2 = 0
    · rw [if_pos hp]
      exact GD.same hA _ _
    rw [if_neg hp]
    obtain ⟨j, -, hj, rfl⟩ := inn_1 (a := 0) (b := 2) (by omega) (by omega) hp
    rw [nI_clamp (show j < 2 ^ 31 by omega)]
    by_cases c : aH A t h 0 = -1
    · rw [if_pos c]
      have W1 : WTk (up A (iH t h 0) (A (7 + j))) t := (hT t ht).half hh (by omega) (fun _ => Or.inr (hA.2.2.1 j (by omega))) (fun y => absurd y (by decide)) (fun y => absurd y (by decide)) (fun y => absurd y (by decide))
      show WA (up (up A (iH t h 0) (A (7 + j))) 5 (A 5 + aHolesOf (up A (iH t h 0) (A (7 + j))) t h)) ∧ up (up A (iH t h 0) (A (7 + j))) 5 (A 5 + aHolesOf (up A (iH t h 0) (A (7 + j))) t h) 1 = A 1
      refine ⟨(hA.tick ((onlyT.rf A t).uH hh (show 0 < 4 by omega) _) W1).n1 (by omega) _, ?_⟩
      rw [up_n (by omega), up_n (by unfold iH; omega)]
    · rw [if_neg c]
      exact GD.same hA _ _
  · rw [hn, hi, if_pos rfl]
    exact GD.same hA _ _
theorem wetA_w {A : Nat → Int32} {t h b : Nat} (W : WTk A t) (hh : h < 2) (hb : b < 10) : WTk (wetA t h (nI b) A) t := by
  obtain ⟨g, hg, eg⟩ := W.g hh
  obtain ⟨-, u, hu, eu⟩ := wet9_lt hg hb
  unfold wetA
  rw [eg, eu]
  exact W.half hh (by omega) (fun y => absurd y (by decide)) (fun _ => ⟨u, hu, rfl⟩) (fun y => absurd y (by decide)) (fun y => absurd y (by decide))
theorem wetA_o (A : Nat → Int32) {t h : Nat} (hh : h < 2) (b : Int32) : onlyT A (wetA t h b A) t := (onlyT.rf A t).uH hh (by omega) _
theorem onlyT.tr {A A' A'' : Nat → Int32} {t : Nat} (h : onlyT A A' t) (h' : onlyT A' A'' t) : onlyT A A'' t := fun i hi => (h' i hi).trans (h i hi)
theorem g_wet {A : Nat → Int32} (hA : WA A) (x : Int32) {h : Nat} (hh : h < 2) (b : Int32) : GD A (sWet x h b A) := by
  obtain ⟨hn, h8, hT⟩ := hA.n
  unfold sWet
  rcases tick_cases x h8 with ⟨t, ht, rfl, hi⟩ | hi
  · rw [hn, hi, if_neg (show ¬ (1 : Int32) = 0 by decide), nI_clamp (by omega)]
    by_cases hb : inn b 1 9 = 0
    · rw [if_pos hb]
      exact GD.same hA _ _
    rw [if_neg hb]
    obtain ⟨j, -, hj, rfl⟩ := inn_1 (a := 1) (b := 9) (by omega) (by omega) hb
    have W1 := wetA_w (hT t ht) hh (show j < 10 by omega)
    have O1 := wetA_o A (t := t) hh (nI j)
    have W2 := wetA_w (b := j / 2) W1 (show 1 - h < 2 by omega) (by omega)
    have O2 := O1.tr (wetA_o (wetA t h (nI j) A) (t := t) (show 1 - h < 2 by omega) (nI (j / 2)))
    have key : ∀ B, onlyT A B t → WTk B t → GD A ((0 : Int32), aH B t h 1, B) := fun B h1 h2 => ⟨hA.tick h1 h2, h1 1 (by omega)⟩
    refine key _ ?_ ?_
    · unfold wetB
      rw [half_b j (by omega)]
      split
      · split
        · exact O2.uT (by omega) 1
        · split
          · exact O2
          · exact O2.uT (by omega) 1
      · exact O1
    · unfold wetB
      rw [half_b j (by omega)]
      split
      · split
        · exact W2.torn (Or.inr rfl)
        · split
          · exact W2
          · exact W2.torn (Or.inr rfl)
      · exact W1
  · rw [hn, hi, if_pos rfl]
    exact GD.same hA _ _
theorem g_ride {A : Nat → Int32} (hA : WA A) (x : Int32) {h : Nat} (hh : h < 2) : GD A (sRide x h A) := by
  obtain ⟨hn, h8, hT⟩ := hA.n
  unfold sRide
  rcases tick_cases x h8 with ⟨t, ht, rfl, hi⟩ | hi
  · rw [hn, hi, if_neg (show ¬ (1 : Int32) = 0 by decide), nI_clamp (by omega)]
    by_cases c : (sHind t h A).1 ≤ 0
    · rw [if_pos c]
      obtain ⟨d, hd, e1⟩ := hA.2.2.2.2
      rcases (show h = 0 ∨ h = 1 by omega) with rfl | rfl
      · have eR : rideA t 0 A = up (up (up A (iH t 0 3) 1) (17 + 20 * t + 11) (A 1)) 3 (A 3 + 1) := if_pos rfl
        rw [eR]
        have W2 : WTk (up (up A (iH t 0 3) 1) (17 + 20 * t + 11) (A 1)) t := by rw [e1]; exact (hT t ht).rode hd
        have ho := ((onlyT.rf A t).uH (show 0 < 2 by omega) (show 3 < 4 by omega) 1).uT (show 11 < 20 by omega) (A 1)
        show WA (up (up (up A (iH t 0 3) 1) (17 + 20 * t + 11) (A 1)) 3 (A 3 + 1)) ∧ up (up (up A (iH t 0 3) 1) (17 + 20 * t + 11) (A 1)) 3 (A 3 + 1) 1 = A 1
        refine ⟨(hA.tick ho W2).n1 (by omega) _, ?_⟩
        rw [up_n (by omega)]
        exact ho 1 (by omega)
      · have eR : rideA t 1 A = up (up A (iH t 1 3) 1) 4 (A 4 + 1) := if_neg (by decide)
        rw [eR]
        have W1 : WTk (up A (iH t 1 3) 1) t := (hT t ht).half (by omega) (by omega) (fun y => absurd y (by decide)) (fun y => absurd y (by decide)) (fun y => absurd y (by decide)) (fun _ => ⟨rfl, Or.inr rfl⟩)
        have ho := (onlyT.rf A t).uH (show 1 < 2 by omega) (show 3 < 4 by omega) 1
        show WA (up (up A (iH t 1 3) 1) 4 (A 4 + 1)) ∧ up (up A (iH t 1 3) 1) 4 (A 4 + 1) 1 = A 1
        refine ⟨(hA.tick ho W1).n1 (by omega) _, ?_⟩
        rw [up_n (by omega)]
        exact ho 1 (by omega)
    · rw [if_neg c]
      exact GD.same hA _ _
  · rw [hn, hi, if_pos rfl]
    exact GD.same hA _ _
theorem g_away {A : Nat → Int32} (hA : WA A) (x : Int32) : GD A (sAway x A) := by
  obtain ⟨hn, h8, hT⟩ := hA.n
  unfold sAway
  rcases tick_cases x h8 with ⟨t, ht, rfl, hi⟩ | hi
  · rw [hn, hi, if_neg (show ¬ (1 : Int32) = 0 by decide), nI_clamp (by omega)]
    obtain ⟨m, hm⟩ : ∃ m, aN A = m + 1 := ⟨aN A - 1, by omega⟩
    have hlow : ∀ i, ¬ i = 0 → i < 17 → dropA t (aN A) A i = A i := by
      intro i h1 h2
      unfold dropA
      rw [if_neg h1, if_neg (by omega), if_neg (by omega)]
    show WA (dropA t (aN A) A) ∧ dropA t (aN A) A 1 = A 1
    refine ⟨?_, hlow 1 (by omega) (by omega)⟩
    obtain ⟨-, ⟨n, n1, n2, n3, n4⟩, b2, ⟨b, b3, b4⟩, ⟨d, d1, d2⟩⟩ := hA
    refine ⟨⟨m, by omega, ?_, fun u hu => ?_⟩, ⟨n, n1, (hlow 10 (by omega) (by omega)).trans n2, fun k hk => ?_, fun k k1 k2 => (hlow (11 + k) (by omega) (by omega)).trans (n4 k k1 k2)⟩, fun p hp => ⟨_, (b2 p hp).choose_spec.1, (hlow (7 + p) (by omega) (by omega)).trans (b2 p hp).choose_spec.2⟩, ⟨b, b3, (hlow 6 (by omega) (by omega)).trans b4⟩, ⟨d, d1, (hlow 1 (by omega) (by omega)).trans d2⟩⟩
    · show dropA t (aN A) A 0 = nI m
      unfold dropA
      rw [if_pos rfl, hm]
      rfl
    · refine (hT (if u < t then u else u + 1) (by split <;> omega)).to (fun e he => ?_)
      show dropA t (aN A) A (17 + 20 * u + e) = _
      unfold aT dropA
      rw [hm, if_neg (by omega)]
      by_cases c : u < t
      · rw [if_pos c, if_neg (by omega), if_neg (by omega)]
      · rw [if_neg c, if_pos (by omega)]
        congr 1
        omega
    · show isLet (dropA t (aN A) A (11 + k)) = 1
      rw [hlow (11 + k) (by omega) (by omega)]
      exact n3 k hk
  · rw [hn, hi, if_pos rfl]
    exact GD.same hA _ _
theorem g_print {A G : Nat → Int32} (hA : WA A) {g : Nat} (h6 : g ≤ 6) (hG0 : G 0 = nI g) (hL : ∀ k, k < g → isLet (G (k + 1)) = 1) (f t c : Int32) : GD A (sPrint g f t c G A) := by
  obtain ⟨hn, h8, hT⟩ := hA.n
  unfold sPrint
  by_cases hf : inn f 0 4 = 0
  · rw [if_pos hf]
    exact GD.same hA _ _
  rw [if_neg hf]
  by_cases ht : inn t 0 4 = 0
  · rw [if_pos ht]
    exact GD.same hA _ _
  rw [if_neg ht]
  by_cases hft : f = t
  · rw [if_pos hft]
    exact GD.same hA _ _
  rw [if_neg hft]
  by_cases hc : inn c 1 9 = 0
  · rw [if_pos hc]
    exact GD.same hA _ _
  rw [if_neg hc]
  by_cases hg : nI g < 2
  · rw [if_pos hg]
    exact GD.same hA _ _
  rw [if_neg hg]
  by_cases hv : gVow G g = 0
  · rw [if_pos hv]
    exact GD.same hA _ _
  rw [if_neg hv]
  by_cases h9 : A 0 = 8
  · rw [if_pos h9]
    exact GD.same hA _ _
  rw [if_neg h9]
  have g2 : 2 ≤ g := by
    have := (not_congr (nI_ltI (a := g) (b := 2) (by omega) (by omega))).mp hg
    omega
  have h9' : ¬ aN A = 8 := fun z => h9 (by rw [hn, z]; rfl)
  obtain ⟨p, -, hp, rfl⟩ := inn_1 (a := 0) (b := 4) (by omega) (by omega) hf
  obtain ⟨q, -, hq, rfl⟩ := inn_1 (a := 0) (b := 4) (by omega) (by omega) ht
  obtain ⟨j, hj1, hj, rfl⟩ := inn_1 (a := 1) (b := 9) (by omega) (by omega) hc
  have hP : ∀ i, ¬ i = 0 → ¬ i = 2 → i < 17 → printA (aN A) g (nI p) (nI q) (nI j) G A i = A i := fun i h1 h2 h3 => pr_o _ _ _ _ _ h1 h2 (by omega)
  show WA (printA (aN A) g (nI p) (nI q) (nI j) G A) ∧ printA (aN A) g (nI p) (nI q) (nI j) G A 1 = A 1
  refine ⟨?_, hP 1 (by omega) (by omega) (by omega)⟩
  obtain ⟨-, ⟨n, n1, n2, n3, n4⟩, b2, ⟨b, b3, b4⟩, ⟨d, d1, d2⟩⟩ := hA
  refine ⟨⟨aN A + 1, by omega, pr_0 _ _ _ _ _, fun u hu => ?_⟩, ⟨n, n1, (hP 10 (by omega) (by omega) (by omega)).trans n2, fun k hk => ?_, fun k k1 k2 => (hP (11 + k) (by omega) (by omega) (by omega)).trans (n4 k k1 k2)⟩, fun p hp => ⟨_, (b2 p hp).choose_spec.1, (hP (7 + p) (by omega) (by omega) (by omega)).trans (b2 p hp).choose_spec.2⟩, ⟨b, b3, (hP 6 (by omega) (by omega) (by omega)).trans b4⟩, ⟨d, d1, (hP 1 (by omega) (by omega) (by omega)).trans d2⟩⟩
  · by_cases cu : u = aN A
    · rw [cu]
      exact pr_w h6 g2 hG0 hL ⟨p, by omega, rfl⟩ ⟨q, by omega, rfl⟩ ⟨j, by omega, rfl⟩
    · exact (hT u (by omega)).to (fun e he => pr_o _ _ _ _ _ (by omega) (by omega) (by omega))
  · show isLet (printA (aN A) g (nI p) (nI q) (nI j) G A (11 + k)) = 1
    rw [hP (11 + k) (by omega) (by omega) (by omega)]
    exact n3 k hk
theorem zr_w {A : Nat → Int32} (hA : WA A) : WA (zrA 10 7 A) ∧ zrA 10 7 A 1 = A 1 := by
  have e : ∀ i, ¬ (10 ≤ i ∧ i < 17) → zrA 10 7 A i = A i := fun i hi => if_neg hi
  have e1 : ∀ i, 10 ≤ i ∧ i < 17 → zrA 10 7 A i = 0 := fun i hi => if_pos hi
  refine ⟨hA.low (e 0 (by omega)) (e 1 (by omega)) (fun i hi => e i (by omega)) ⟨0, by omega, e1 10 (by omega), fun k hk => by omega, fun k k1 k2 => e1 (11 + k) (by omega)⟩ (fun p hp => ⟨_, (hA.2.2.1 p hp).choose_spec.1, (e (7 + p) (by omega)).trans (hA.2.2.1 p hp).choose_spec.2⟩) ⟨_, hA.2.2.2.1.choose_spec.1, (e 6 (by omega)).trans hA.2.2.2.1.choose_spec.2⟩, e 1 (by omega)⟩
theorem g_printD {A : Nat → Int32} (hA : WA A) {d : Nat} (hd : A 10 = nI d) (h6 : d ≤ 6) (f t c : Int32) : GD A (sPrintD d f t c A) := by
  obtain ⟨n, n1, n2, n3, n4⟩ := hA.2.1
  have e : d = n := by
    have := hd.symm.trans n2
    rw [nI_inj (by omega) (by omega)] at this
    exact this
  subst e
  have g := g_print (G := fun k => A (10 + k)) hA n1 n2 (fun k hk => by show isLet (A (10 + (k + 1))) = 1; rw [show 10 + (k + 1) = 11 + k by omega]; exact n3 k hk) f t c
  unfold sPrintD
  split
  · exact ⟨(zr_w g.1).1, (zr_w g.1).2.trans g.2⟩
  · exact g
theorem g_day {A : Nat → Int32} (hA : WA A) {d : Nat} (hd : A 1 = nI d) (h9 : d + 1 < 100000) : WA (sDay A).2.2 ∧ (sDay A).2.2 1 = nI (d + 1) := by
  unfold sDay
  rw [hd, nI_1]
  show WA (up A 1 (nI (d + 1))) ∧ up A 1 (nI (d + 1)) 1 = nI (d + 1)
  exact ⟨hA.day h9, up_s _ _ _⟩
