/-! Rides and water: what the law asks of them besides -/
section RID
variable {w : FW} {x n b : Nat} {A H S : Nat → Int32} {sv : Int32}
theorem m77 : (-77 : Int32) ≤ -74 := by decide
theorem a_ride (C : CR w x A n H sv S) (hI : IV b A) (hy : DB b A) (hb : b ≤ 100000) (a z : Int32) {h : Nat} (hh : h < 2) (hz : zz (zz z) = nI h) : ∃ r w', F_L_ride x a (zz z) w = some (r, w') ∧ AR w x (b + 1) n A H sv S r w' ∧ (lq (qHinders a h A) < 0 ∨ lq (qHinders a h A) = 0 ∧ 0 < r ∨ ¬ lq (qHinders a h A) < 0 ∧ ¬ lq (qHinders a h A) = 0 ∧ r = -76 ∧ gI w' 411 x 0 = lq (qHinders a h A)) := by
  have hA := C.2.2.1
  have P := p_ride C a z hh hz
  have gR := g_ride hA a hh
  have vR := fun y => vl_ride hI hb a hh y
  have iR := fun y => iv_ride hI hA a hh y
  unfold F_L_ride
  by_cases a1 : inn a 0 (A 0 - 1) = 0
  · have hq : lq (qHinders a h A) < 0 := by
      unfold qHinders
      rw [if_pos a1]
      decide
    rcases P with ⟨h0, w', e, C', K⟩ | ⟨h0, q, w', e, he, C', K, k1, k2⟩
    · obtain ⟨k, -, k3, k4⟩ := vR h0
      rw [fg_t C.1.1, e, Option.bind_some]
      exact ⟨_, _, rfl, AR.ok C' (iR h0) (hy.to gR.2) ⟨k, k3, k4⟩ K, Or.inl hq⟩
    · rw [fg_t C.1.1, e, Option.bind_some]
      simp only [List.mem_cons, List.mem_nil_iff, or_false] at he
      rcases he with rfl | rfl
      · exact ⟨_, _, rfl, AR.no C' (by decide) K, Or.inl hq⟩
      · exact ⟨_, _, rfl, AR.no C' (by decide) K, Or.inl hq⟩
  · have hq : lq (qHinders a h A) = (sHind a.toNatClampNeg h A).1 := by
      unfold qHinders
      rw [if_neg a1, lq_l]
    rw [hq]
    rcases hind_cases a.toNatClampNeg h A with ⟨s1, s2⟩ | ⟨s1, s2, s3⟩
    · rcases P with ⟨h0, w', e, C', K⟩ | ⟨h0, q, w', e, he, C', K, k1, k2⟩
      · obtain ⟨k, k2, k3, k4⟩ := vR h0
        rw [fg_t C.1.1, e, Option.bind_some]
        refine ⟨_, _, rfl, AR.ok C' (iR h0) (hy.to gR.2) ⟨k, k3, k4⟩ K, Or.inr (Or.inl ⟨s1, ?_⟩)⟩
        rw [k4]
        exact nI_lt (a := 0) (by omega) (by omega)
      · refine absurd ?_ h0
        unfold sRide
        rw [if_neg a1, if_pos (by rw [s1]; decide)]
    · rcases P with ⟨h0, w', e, C', K⟩ | ⟨h0, q, w', e, he, C', K, k1, k2⟩
      · unfold sRide at h0
        rw [if_neg a1, if_neg s1] at h0
        exact absurd h0 s3
      · have hr : (sRide a h A).1 = (sHind a.toNatClampNeg h A).1 := by
          unfold sRide
          rw [if_neg a1, if_neg s1]
        have hp : 0 < (sRide a h A).1 := by
          rw [hr]
          rw [Int32.le_iff_toInt_le] at s1
          rw [Int32.lt_iff_toInt_lt]
          have e0 : (0 : Int32).toInt = 0 := by decide
          omega
        obtain ⟨rfl, k4, k5⟩ := k1 hp
        rw [fg_t C.1.1, e, Option.bind_some]
        exact ⟨_, _, rfl, AR.no C' (by decide) K, Or.inr (Or.inr ⟨s2, s3, rfl, k4.trans hr⟩)⟩
theorem wet_own {t h : Nat} (hh : h < 2) (p : Int32) : aH (wetB t h p A) t h 1 = wet9 (aH A t h 1) p ∧ (∀ i, ¬ i = iH t 0 1 → ¬ i = iH t 1 1 → ¬ i = 17 + 20 * t + 10 → wetB t h p A i = A i) := by
  have hd : h = 0 ∨ h = 1 := by omega
  have ew : ∀ t h q A i, ¬ i = iH t h 1 → wetA t h q A i = A i := fun t h q A i hi => up_n hi
  constructor
  · have e1 : wetA t h p A (iH t h 1) = wet9 (aH A t h 1) p := up_s _ _ _
    have e2 : wetA t (1 - h) (p / 2) (wetA t h p A) (iH t h 1) = wet9 (aH A t h 1) p := (ew _ _ _ _ _ (by unfold iH; omega)).trans e1
    show wetB t h p A (iH t h 1) = _
    unfold wetB
    split
    · split
      · rw [up_n (by unfold iH; omega), e2]
      · split
        · exact e2
        · rw [up_n (by unfold iH; omega), e2]
    · exact e1
  · intro i h1 h2 h3
    have e1 : wetA t h p A i = A i := ew _ _ _ _ _ (by rcases hd with y | y <;> (subst y; assumption))
    have e2 : wetA t (1 - h) (p / 2) (wetA t h p A) i = A i := (ew _ _ _ _ _ (by rcases hd with y | y <;> (subst y; assumption))).trans e1
    unfold wetB
    split
    · split
      · rw [up_n h3, e2]
      · split
        · exact e2
        · rw [up_n h3, e2]
    · exact e1
theorem a_wet2 (C : CR w x A n H sv S) (hI : IV b A) (hy : DB b A) (a z p : Int32) {h : Nat} (hh : h < 2) (hz : zz (zz z) = nI h) (hp : ¬ inn p 1 9 = 0) : ∃ r w', F_L_wet x a (zz z) p w = some (r, w') ∧ AR w x (b + 1) n A H sv S r w' ∧ (lq (qWould a h p A) < 0 ∨ F_L_halfOf x a (zz z) 7 w' = some (lq (qWould a h p A))) := by
  have hA := C.2.2.1
  have P := p_wet C a z p hh hz
  have gW := g_wet hA a hh p
  have vW := fun y => vl_wet hA a hh p y
  have iW := fun y => iv_wet hI hA a hh p y
  unfold F_L_wet
  by_cases a1 : inn a 0 (A 0 - 1) = 0
  · have hq : lq (qWould a h p A) < 0 := by
      unfold qWould
      rw [if_pos a1]
      decide
    rcases P with ⟨h0, w', e, C', K⟩ | ⟨h0, q, w', e, he, C', K, k1, k2⟩
    · rw [fg_t C.1.1, e, Option.bind_some]
      exact ⟨_, _, rfl, AR.ok C' (iW h0) (hy.to gW.2) (vW h0) K, Or.inl hq⟩
    · rw [fg_t C.1.1, e, Option.bind_some]
      simp only [List.mem_cons, List.mem_nil_iff, or_false] at he
      rcases he with rfl | rfl
      · exact ⟨_, _, rfl, AR.no C' (by decide) K, Or.inl hq⟩
      · exact ⟨_, _, rfl, AR.no C' (by decide) K, Or.inl hq⟩
  · rcases P with ⟨h0, w', e, C', K⟩ | ⟨h0, q, w', e, he, C', K, k1, k2⟩
    · rw [fg_t C.1.1, e, Option.bind_some]
      refine ⟨_, _, rfl, AR.ok C' (iW h0) (hy.to gW.2) (vW h0) K, ?_⟩
      sorry
    · refine absurd ?_ h0
      unfold sWet
      rw [if_neg a1, if_neg hp]
end RID
