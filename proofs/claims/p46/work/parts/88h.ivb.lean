/-! What holds goes on to hold: punches, water, rides -/
section IVT
variable {A B : Nat → Int32} {b : Nat}
theorem word_same {t : Nat} (hT : WTk A t) (e : ∀ i, i < 7 → B (17 + 20 * t + i) = A (17 + 20 * t + i)) : nV B t = nV A t ∧ ∀ h, aH B t h 0 = aH A t h 0 → hoT B t h = hoT A t h := by
  have eN : aLen B t = aLen A t := by unfold aLen; rw [show aT B t 0 = aT A t 0 from e 0 (by omega)]
  have h6 := hT.len.2
  have eL : ∀ k, k < aLen A t → aL B t k = aL A t k := fun k hk => e (1 + k) (by omega)
  refine ⟨?_, fun h y => ?_⟩
  · unfold nV
    rw [eN]
    exact sm_congr _ (fun k hk => by rw [eL k hk])
  · unfold hoT nHo
    rw [eN, y, sm_congr _ (fun k hk => by rw [eL k hk])]
theorem holes_cg {t h : Nat} (e : ∀ i, 17 ≤ i → B i = A i) : aHolesOf B t h = aHolesOf A t h := by
  have eN : aLen B t = aLen A t := by unfold aLen aT; rw [e _ (by omega)]
  unfold aHolesOf
  rw [eN]
  exact cnt_congr (fun k _ => by
    unfold aHoles aL aH
    rw [e _ (by omega), e _ (by omega)])
theorem iv_punch (hI : IV b A) (hA : WA A) (x : Int32) {h : Nat} (hh : h < 2) (p : Int32) (h0 : (sPunch x h p A).1 = 0) : IV (b + 1) (sPunch x h p A).2.2 := by
  have hG := g_punch hA x hh p
  unfold sPunch at h0 hG ⊢
  by_cases a1 : inn x 0 (A 0 - 1) = 0
  · rw [if_pos a1] at h0
    exact absurd h0 (show ¬ (-1 : Int32) = 0 by decide)
  by_cases a2 : inn p 0 2 = 0
  · rw [if_neg a1, if_pos a2] at h0
    exact absurd h0 (show ¬ (-1 : Int32) = 0 by decide)
  obtain ⟨t, t1, t2⟩ := inn_t_ex hA a1
  rw [t2] at h0 hG ⊢
  by_cases a3 : ¬ aH A t h 0 = -1
  · rw [if_neg a1, if_neg a2, if_neg a3] at h0
    exact absurd h0 (show ¬ (3 : Int32) = 0 by decide)
  rw [Classical.not_not] at a3
  rw [if_neg a1, if_neg a2, if_pos a3] at hG ⊢
  have hB := hG.1
  obtain ⟨j, -, j1, j2⟩ := inn_1 (a := 0) (b := 2) (by decide) (by decide) a2
  obtain ⟨m, m1, m2⟩ := hA.2.2.1 j (by omega)
  have hT := hA.n.2.2 t t1
  rw [j2, nI_clamp (by omega), m2] at hB ⊢
  change WA (up (up A (iH t h 0) (nI m)) 5 (A 5 + aHolesOf (up A (iH t h 0) (nI m)) t h)) at hB
  show IV (b + 1) (up (up A (iH t h 0) (nI m)) 5 (A 5 + aHolesOf (up A (iH t h 0) (nI m)) t h))
  have e : ∀ i, ¬ i = iH t h 0 → ¬ i = 5 → up (up A (iH t h 0) (nI m)) 5 (A 5 + aHolesOf (up A (iH t h 0) (nI m)) t h) i = A i := fun i h1 h2 => by
    rw [up_n h2, up_n h1]
  have eQ : up (up A (iH t h 0) (nI m)) 5 (A 5 + aHolesOf (up A (iH t h 0) (nI m)) t h) (iH t h 0) = nI m := by
    rw [up_n (by unfold iH; omega), up_s]
  have e5 : up (up A (iH t h 0) (nI m)) 5 (A 5 + aHolesOf (up A (iH t h 0) (nI m)) t h) 5 = A 5 + aHolesOf (up (up A (iH t h 0) (nI m)) 5 (A 5 + aHolesOf (up A (iH t h 0) (nI m)) t h)) t h := by
    rw [up_s, holes_cg (A := up A (iH t h 0) (nI m)) (fun i hi => up_n (by omega))]
  generalize up (up A (iH t h 0) (nI m)) 5 (A 5 + aHolesOf (up A (iH t h 0) (nI m)) t h) = B at *
  have eN : aN B = aN A := by unfold aN; rw [e 0 (by unfold iH; omega) (by omega)]
  have hTB := hB.n.2.2 t (by rw [eN]; exact t1)
  unfold iH at e eQ
  have eq : aH B t h 0 = nI m := eQ
  have ne : ¬ aH B t h 0 = -1 := fun z => nI_pos (n := m) (by omega) (by rw [← eq, z]; decide)
  obtain ⟨m', g, m1', g1, m2', g2⟩ := half_mg hTB hh ne
  obtain ⟨f1, f2, f3, f4, f5, f6, f7, f8, f9⟩ := half_n hTB hh ne g2 g1
  have hV6 : nV B t ≤ aLen B t := vow_le hTB
  have hL6 := hTB.len.2
  have eH : ∀ h' i, h' < 2 → i < 4 → ¬ (h' = h ∧ i = 0) → aH B t h' i = aH A t h' i := fun h' i hh' hi hn => e _ (by omega) (by omega)
  obtain ⟨v1, v2⟩ := word_same (B := B) hT (fun i hi => e _ (by omega) (by omega))
  obtain ⟨i1, i2, i3, i4⟩ := hI.1 t t1
  refine hI.one hA t1 (e _ (by omega) (by omega)) (e _ (by omega) (by omega)) (fun t' hn i hi => e _ (by omega) (by omega)) ⟨by rw [v1]; exact i1, fun h' hh' z => ?_, ?_, fun z => ?_⟩ (x := 0) (y := 0) (z := nHo B t h) (by omega) (by omega) (by rw [e 3 (by omega) (by omega)]; exact nI_z _) (by rw [e 4 (by omega) (by omega)]; exact nI_z _) (by rw [e5, f1]) ?_ ?_
  · by_cases y : h' = h
    · rw [y] at z
      exact absurd z ne
    · rw [eH h' 0 hh' (by omega) (fun w => y w.1)] at z
      rw [eH h' 3 hh' (by omega) (by omega)]
      exact i2 h' hh' z
  · rw [eH 1 3 (by omega) (by omega) (by omega), eH 0 3 (by omega) (by omega) (by omega)]
    exact i3
  · rw [show aT B t 10 = aT A t 10 from e _ (by omega) (by omega)] at z
    rw [eH 0 2 (by omega) (by omega) (by omega), eH 1 2 (by omega) (by omega) (by omega), eH 0 1 (by omega) (by omega) (by omega), eH 1 1 (by omega) (by omega) (by omega)]
    exact i4 z
  · unfold oddA
    rw [eH 1 3 (by omega) (by omega) (by omega), eH 0 3 (by omega) (by omega) (by omega)]
    omega
  · have hz : hoT A t h = 0 := by unfold hoT; rw [if_pos a3]
    have hb : hoT B t h = nHo B t h := by unfold hoT; rw [if_neg ne]
    have : h = 0 ∨ h = 1 := by omega
    unfold hoA
    rcases this with y | y
    · subst y
      rw [v2 1 (eH 1 0 (by omega) (by omega) (by omega)), hb]
      omega
    · subst y
      rw [v2 0 (eH 0 0 (by omega) (by omega) (by omega)), hb]
      omega
theorem i56 (v : Int32) (h : ¬ 5 < v) : ¬ 6 ≤ v := by
  rw [Int32.lt_iff_toInt_lt] at h
  rw [Int32.le_iff_toInt_le]
  have e5 : (5 : Int32).toInt = 5 := by decide
  have e6 : (6 : Int32).toInt = 6 := by decide
  omega
theorem i65 (v : Int32) (h : v ≤ 5) : ¬ 6 ≤ v := by
  rw [Int32.le_iff_toInt_le] at h ⊢
  have e5 : (5 : Int32).toInt = 5 := by decide
  have e6 : (6 : Int32).toInt = 6 := by decide
  omega
theorem iv_wet (hI : IV b A) (hA : WA A) (x : Int32) {h : Nat} (hh : h < 2) (p : Int32) (h0 : (sWet x h p A).1 = 0) : IV (b + 1) (sWet x h p A).2.2 := by
  unfold sWet at h0 ⊢
  by_cases a1 : inn x 0 (A 0 - 1) = 0
  · rw [if_pos a1] at h0
    exact absurd h0 (show ¬ (-1 : Int32) = 0 by decide)
  by_cases a2 : inn p 1 9 = 0
  · rw [if_neg a1, if_pos a2] at h0
    exact absurd h0 (show ¬ (-2 : Int32) = 0 by decide)
  rw [if_neg a1, if_neg a2]
  obtain ⟨t, t1, t2⟩ := inn_t_ex hA a1
  rw [t2]
  show IV (b + 1) (wetB t h p A)
  have hT := hA.n.2.2 t t1
  have ew : ∀ t h q A i, ¬ i = iH t h 1 → wetA t h q A i = A i := fun t h q A i hi => up_n hi
  have hd : h = 0 ∨ h = 1 := by omega
  have e : ∀ i, ¬ i = iH t 0 1 → ¬ i = iH t 1 1 → ¬ i = 17 + 20 * t + 10 → wetB t h p A i = A i := fun i h1 h2 h3 => by
    have e1 : wetA t h p A i = A i := ew _ _ _ _ _ (by rcases hd with y | y <;> (subst y; assumption))
    have e2 : wetA t (1 - h) (p / 2) (wetA t h p A) i = A i := (ew _ _ _ _ _ (by rcases hd with y | y <;> (subst y; assumption))).trans e1
    unfold wetB
    split
    · split
      · rw [up_n h3, e2]
      · split
        · exact e2
        · rw [up_n h3, e2]
    · exact e1
  have eJ : aT (wetB t h p A) t 10 = 0 → aT A t 10 = 0 ∧ ¬ 6 ≤ aH (wetB t h p A) t 0 1 ∧ ¬ 6 ≤ aH (wetB t h p A) t 1 1 := by
    unfold wetB
    by_cases c : aT A t 10 = 0
    · rw [if_pos c]
      by_cases d : 5 < aH (wetA t (1 - h) (p / 2) (wetA t h p A)) t 0 1
      · rw [if_pos d]
        intro z
        rw [show aT (up (wetA t (1 - h) (p / 2) (wetA t h p A)) (17 + 20 * t + 10) 1) t 10 = 1 from up_s _ _ _] at z
        exact absurd z (by decide)
      · rw [if_neg d]
        by_cases f : aH (wetA t (1 - h) (p / 2) (wetA t h p A)) t 1 1 ≤ 5
        · rw [if_pos f]
          exact fun _ => ⟨c, i56 _ d, i65 _ f⟩
        · rw [if_neg f]
          intro z
          rw [show aT (up (wetA t (1 - h) (p / 2) (wetA t h p A)) (17 + 20 * t + 10) 1) t 10 = 1 from up_s _ _ _] at z
          exact absurd z (by decide)
    · rw [if_neg c]
      intro z
      rw [show aT (wetA t h p A) t 10 = aT A t 10 from ew _ _ _ _ _ (by unfold iH; omega)] at z
      exact absurd z c
  generalize wetB t h p A = B at *
  unfold iH at e
  have eH : ∀ h' i, h' < 2 → i < 4 → ¬ i = 1 → aH B t h' i = aH A t h' i := fun h' i hh' hi hn => e _ (by omega) (by omega) (by omega)
  obtain ⟨v1, v2⟩ := word_same (B := B) hT (fun i hi => e _ (by omega) (by omega) (by omega))
  obtain ⟨i1, i2, i3, i4⟩ := hI.1 t t1
  refine hI.one hA t1 (e _ (by omega) (by omega) (by omega)) (e _ (by omega) (by omega) (by omega)) (fun t' hn i hi => e _ (by omega) (by omega) (by omega)) ⟨by rw [v1]; exact i1, fun h' hh' => ?_, ?_, fun z => ?_⟩ (x := 0) (y := 0) (z := 0) (by omega) (by omega) (by rw [e 3 (by omega) (by omega) (by omega)]; exact nI_z _) (by rw [e 4 (by omega) (by omega) (by omega)]; exact nI_z _) (by rw [e 5 (by omega) (by omega) (by omega)]; exact nI_z _) ?_ ?_
  · rw [eH h' 0 hh' (by omega) (by omega), eH h' 3 hh' (by omega) (by omega)]
    exact i2 h' hh'
  · rw [eH 1 3 (by omega) (by omega) (by omega), eH 0 3 (by omega) (by omega) (by omega)]
    exact i3
  · obtain ⟨z1, z2, z3⟩ := eJ z
    rw [eH 0 2 (by omega) (by omega) (by omega), eH 1 2 (by omega) (by omega) (by omega)]
    exact ⟨(i4 z1).1, z2, z3⟩
  · unfold oddA
    rw [eH 1 3 (by omega) (by omega) (by omega), eH 0 3 (by omega) (by omega) (by omega)]
    omega
  · unfold hoA
    rw [v2 0 (eH 0 0 (by omega) (by omega) (by omega)), v2 1 (eH 1 0 (by omega) (by omega) (by omega))]
    omega
theorem hind_0 {t h : Nat} (hs : (sHind t h A).1 ≤ 0) : ¬ aH A t h 0 = -1 ∧ ¬ aH A t h 3 = 1 ∧ ¬ (h = 1 ∧ aT A t 11 = -1) := by
  unfold sHind at hs
  by_cases a1 : aH A t h 2 = 1
  · rw [if_pos a1] at hs
    exact absurd hs (show ¬ (4 : Int32) ≤ 0 by decide)
  by_cases a2 : aH A t h 0 = -1
  · rw [if_neg a1, if_pos a2] at hs
    exact absurd hs (show ¬ (5 : Int32) ≤ 0 by decide)
  by_cases a3 : aH A t h 3 = 1
  · rw [if_neg a1, if_neg a2, if_pos a3] at hs
    exact absurd hs (show ¬ (6 : Int32) ≤ 0 by decide)
  by_cases a4 : h = 1 ∧ aT A t 11 = -1
  · rw [if_neg a1, if_neg a2, if_neg a3, if_pos a4] at hs
    exact absurd hs (show ¬ (7 : Int32) ≤ 0 by decide)
  exact ⟨a2, a3, a4⟩
theorem odd_1 (B : Nat → Int32) (t : Nat) : oddA B t ≤ 1 := by
  unfold oddA
  by_cases c : aH B t 0 3 = 1
  · rw [if_pos c]
    by_cases d : aH B t 1 3 = 1
    · rw [if_pos d]
      decide
    · rw [if_neg d]
      decide
  · rw [if_neg c]
    decide
theorem iv_ride (hI : IV b A) (hA : WA A) (x : Int32) {h : Nat} (hh : h < 2) (h0 : (sRide x h A).1 = 0) : IV (b + 1) (sRide x h A).2.2 := by
  unfold sRide at h0 ⊢
  by_cases a1 : inn x 0 (A 0 - 1) = 0
  · rw [if_pos a1] at h0
    exact absurd h0 (show ¬ (-1 : Int32) = 0 by decide)
  obtain ⟨t, t1, t2⟩ := inn_t_ex hA a1
  rw [t2] at h0 ⊢
  by_cases a2 : ¬ (sHind t h A).1 ≤ 0
  · rw [if_neg a1, if_neg a2] at h0
    refine absurd (?_ : (sHind t h A).1 ≤ 0) a2
    rw [show (sHind t h A).1 = 0 from h0]
    decide
  rw [Classical.not_not] at a2
  rw [if_neg a1, if_pos a2]
  obtain ⟨n0, n3, n11⟩ := hind_0 a2
  show IV (b + 1) (rideA t h A)
  have hT := hA.n.2.2 t t1
  obtain ⟨i1, i2, i3, i4⟩ := hI.1 t t1
  have hd : h = 0 ∨ h = 1 := by omega
  unfold rideA
  rcases hd with y | y
  · subst y
    rw [if_pos rfl]
    have e : ∀ i, ¬ i = 17 + 20 * t + (12 + 4 * 0 + 3) → ¬ i = 17 + 20 * t + 11 → ¬ i = 3 → up (up (up A (17 + 20 * t + (12 + 4 * 0 + 3)) 1) (17 + 20 * t + 11) (A 1)) 3 (A 3 + 1) i = A i := fun i h1 h2 h3 => by
      rw [up_n h3, up_n h2, up_n h1]
    have e3 : up (up (up A (17 + 20 * t + (12 + 4 * 0 + 3)) 1) (17 + 20 * t + 11) (A 1)) 3 (A 3 + 1) 3 = A 3 + nI 1 := up_s _ _ _
    have eQ : up (up (up A (17 + 20 * t + (12 + 4 * 0 + 3)) 1) (17 + 20 * t + 11) (A 1)) 3 (A 3 + 1) (17 + 20 * t + (12 + 4 * 0 + 3)) = 1 := by
      rw [up_n (by omega), up_n (by omega), up_s]
    generalize up (up (up A (17 + 20 * t + (12 + 4 * 0 + 3)) 1) (17 + 20 * t + 11) (A 1)) 3 (A 3 + 1) = B at *
    have eq : aH B t 0 3 = 1 := eQ
    have eH : ∀ h' i, h' < 2 → i < 4 → ¬ (h' = 0 ∧ i = 3) → aH B t h' i = aH A t h' i := fun h' i hh' hi hn => e _ (by omega) (by omega) (by omega)
    obtain ⟨v1, v2⟩ := word_same (B := B) hT (fun i hi => e _ (by omega) (by omega) (by omega))
    refine hI.one hA t1 (e _ (by omega) (by omega) (by omega)) (e _ (by omega) (by omega) (by omega)) (fun t' hn i hi => e _ (by omega) (by omega) (by omega)) ⟨by rw [v1]; exact i1, fun h' hh' z => ?_, fun _ => eq, fun z => ?_⟩ (x := 1) (y := 0) (z := 0) (by omega) (by omega) e3 (by rw [e 4 (by omega) (by omega) (by omega)]; exact nI_z _) (by rw [e 5 (by omega) (by omega) (by omega)]; exact nI_z _) ?_ ?_
    · rw [eH h' 0 hh' (by omega) (by omega)] at z
      by_cases y : h' = 0
      · rw [y] at z
        exact absurd z n0
      · rw [eH h' 3 hh' (by omega) (by omega)]
        exact i2 h' hh' z
    · rw [show aT B t 10 = aT A t 10 from e _ (by omega) (by omega) (by omega)] at z
      rw [eH 0 2 (by omega) (by omega) (by omega), eH 1 2 (by omega) (by omega) (by omega), eH 0 1 (by omega) (by omega) (by omega), eH 1 1 (by omega) (by omega) (by omega)]
      exact i4 z
    · have := odd_1 B t
      omega
    · unfold hoA
      rw [v2 0 (eH 0 0 (by omega) (by omega) (by omega)), v2 1 (eH 1 0 (by omega) (by omega) (by omega))]
      omega
  · subst y
    rw [if_neg (by decide)]
    have e : ∀ i, ¬ i = 17 + 20 * t + (12 + 4 * 1 + 3) → ¬ i = 4 → up (up A (17 + 20 * t + (12 + 4 * 1 + 3)) 1) 4 (A 4 + 1) i = A i := fun i h1 h2 => by
      rw [up_n h2, up_n h1]
    have e4 : up (up A (17 + 20 * t + (12 + 4 * 1 + 3)) 1) 4 (A 4 + 1) 4 = A 4 + nI 1 := up_s _ _ _
    have eQ : up (up A (17 + 20 * t + (12 + 4 * 1 + 3)) 1) 4 (A 4 + 1) (17 + 20 * t + (12 + 4 * 1 + 3)) = 1 := by
      rw [up_n (by omega), up_s]
    generalize up (up A (17 + 20 * t + (12 + 4 * 1 + 3)) 1) 4 (A 4 + 1) = B at *
    have eq : aH B t 1 3 = 1 := eQ
    have h03 : aH A t 0 3 = 1 := hT.2.2.2.2.2.2.2.mpr (fun z => n11 ⟨rfl, z⟩)
    have eH : ∀ h' i, h' < 2 → i < 4 → ¬ (h' = 1 ∧ i = 3) → aH B t h' i = aH A t h' i := fun h' i hh' hi hn => e _ (by omega) (by omega)
    obtain ⟨v1, v2⟩ := word_same (B := B) hT (fun i hi => e _ (by omega) (by omega))
    refine hI.one hA t1 (e _ (by omega) (by omega)) (e _ (by omega) (by omega)) (fun t' hn i hi => e _ (by omega) (by omega)) ⟨by rw [v1]; exact i1, fun h' hh' z => ?_, fun _ => (eH 0 3 (by omega) (by omega) (by omega)).trans h03, fun z => ?_⟩ (x := 0) (y := 1) (z := 0) (by omega) (by omega) (by rw [e 3 (by omega) (by omega)]; exact nI_z _) e4 (by rw [e 5 (by omega) (by omega)]; exact nI_z _) ?_ ?_
    · rw [eH h' 0 hh' (by omega) (by omega)] at z
      by_cases y : h' = 1
      · rw [y] at z
        exact absurd z n0
      · rw [eH h' 3 hh' (by omega) (by omega)]
        exact i2 h' hh' z
    · rw [show aT B t 10 = aT A t 10 from e _ (by omega) (by omega)] at z
      rw [eH 0 2 (by omega) (by omega) (by omega), eH 1 2 (by omega) (by omega) (by omega), eH 0 1 (by omega) (by omega) (by omega), eH 1 1 (by omega) (by omega) (by omega)]
      exact i4 z
    · unfold oddA
      rw [eq, eH 0 3 (by omega) (by omega) (by omega), if_pos h03, if_pos rfl, if_pos h03, if_neg n3]
      omega
    · unfold hoA
      rw [v2 0 (eH 0 0 (by omega) (by omega) (by omega)), v2 1 (eH 1 0 (by omega) (by omega) (by omega))]
      omega
end IVT
