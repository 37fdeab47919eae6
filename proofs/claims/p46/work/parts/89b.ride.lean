/-! Rides and water: what the law asks of them besides -/
section RID
variable {w : FW} {x n b : Nat} {A H S : Nat → Int32} {sv : Int32}
theorem m77 : (-77 : Int32) ≤ -74 := by decide
theorem a_ride (C : CR w x A n H sv S) (hI : IV b A) (hy : DB b A) (hb : b ≤ 100000) (a z : Int32) {h : Nat} (hh : h < 2) (hz : zz (zz z) = nI h) : ∃ r w', F_L_ride x a (zz z) w = some (r, w') ∧ AR w x (b + 1) n A H sv S r w' ∧ (lq (qHinders a h A) < 0 ∨ lq (qHinders a h A) = 0 ∧ 0 < r ∨ ¬ lq (qHinders a h A) < 0 ∧ ¬ lq (qHinders a h A) = 0 ∧ r = -76 ∧ gI w' 411 x 0 = lq (qHinders a h A)) := by
  have hA := C.2.2.1
  have P := p_ride C a z hh hz
  have gR := g_ride hA a hh
  have vR := fun y => vl_ride hI hb a hh y
  have iR := fun y => iv_ride hI hA a hh y
  unfold F_L_ride
  by_cases a1 : inn a 0 (A 0 - 1) = 0
  · have hq : lq (qHinders a h A) < 0 := by
      unfold qHinders
      rw [if_pos a1]
      decide
    rcases P with ⟨h0, w', e, C', K⟩ | ⟨h0, q, w', e, he, C', K, k1, k2⟩
    · obtain ⟨k, -, k3, k4⟩ := vR h0
      rw [fg_t C.1.1, e, Option.bind_some]
      exact ⟨_, _, rfl, AR.ok C' (iR h0) (hy.to gR.2) ⟨k, k3, k4⟩ K, Or.inl hq⟩
    · rw [fg_t C.1.1, e, Option.bind_some]
      simp only [List.mem_cons, List.mem_nil_iff, or_false] at he
      rcases he with rfl | rfl
      · exact ⟨_, _, rfl, AR.no C' (by decide) K, Or.inl hq⟩
      · exact ⟨_, _, rfl, AR.no C' (by decide) K, Or.inl hq⟩
  · have hq : lq (qHinders a h A) = (sHind a.toNatClampNeg h A).1 := by
      unfold qHinders
      rw [if_neg a1, lq_l]
    rw [hq]
    rcases hind_cases a.toNatClampNeg h A with ⟨s1, s2⟩ | ⟨s1, s2, s3⟩
    · rcases P with ⟨h0, w', e, C', K⟩ | ⟨h0, q, w', e, he, C', K, k1, k2⟩
      · obtain ⟨k, k2, k3, k4⟩ := vR h0
        rw [fg_t C.1.1, e, Option.bind_some]
        refine ⟨_, _, rfl, AR.ok C' (iR h0) (hy.to gR.2) ⟨k, k3, k4⟩ K, Or.inr (Or.inl ⟨s1, ?_⟩)⟩
        rw [k4]
        exact nI_lt (a := 0) (by omega) (by omega)
      · refine absurd ?_ h0
        unfold sRide
        rw [if_neg a1, if_pos (by rw [s1]; decide)]
    · rcases P with ⟨h0, w', e, C', K⟩ | ⟨h0, q, w', e, he, C', K, k1, k2⟩
      · unfold sRide at h0
        rw [if_neg a1, if_neg s1] at h0
        exact absurd h0 s3
      · have hr : (sRide a h A).1 = (sHind a.toNatClampNeg h A).1 := by
          unfold sRide
          rw [if_neg a1, if_neg s1]
        have hp : 0 < (sRide a h A).1 := by
          rw [hr]
          rw [Int32.le_iff_toInt_le] at s1
          rw [Int32.lt_iff_toInt_lt]
          have e0 : (0 : Int32).toInt = 0 := by decide
          omega
        obtain ⟨rfl, k4, k5⟩ := k1 hp
        rw [fg_t C.1.1, e, Option.bind_some]
        exact ⟨_, _, rfl, AR.no C' (by decide) K, Or.inr (Or.inr ⟨s2, s3, rfl, k4.trans hr⟩)⟩
theorem wet_own {t h : Nat} (hh : h < 2) (p : Int32) : aH (wetB t h p A) t h 1 = wet9 (aH A t h 1) p ∧ (∀ i, ¬ i = iH t 0 1 → ¬ i = iH t 1 1 → ¬ i = 17 + 20 * t + 10 → wetB t h p A i = A i) := by
  have hd : h = 0 ∨ h = 1 := by omega
  have ew : ∀ t h q A i, ¬ i = iH t h 1 → wetA t h q A i = A i := fun t h q A i hi => up_n hi
  constructor
  · have e1 : wetA t h p A (iH t h 1) = wet9 (aH A t h 1) p := up_s _ _ _
    have e2 : wetA t (1 - h) (p / 2) (wetA t h p A) (iH t h 1) = wet9 (aH A t h 1) p := (ew _ _ _ _ _ (by unfold iH; omega)).trans e1
    show wetB t h p A (iH t h 1) = _
    unfold wetB
    split
    · split
      · rw [up_n (by unfold iH; omega), e2]
      · split
        · exact e2
        · rw [up_n (by unfold iH; omega), e2]
    · exact e1
  · intro i h1 h2 h3
    have e1 : wetA t h p A i = A i := ew _ _ _ _ _ (by rcases hd with y | y <;> (subst y; assumption))
    have e2 : wetA t (1 - h) (p / 2) (wetA t h p A) i = A i := (ew _ _ _ _ _ (by rcases hd with y | y <;> (subst y; assumption))).trans e1
    unfold wetB
    split
    · split
      · rw [up_n h3, e2]
      · split
        · exact e2
        · rw [up_n h3, e2]
    · exact e1
theorem right_cg {B : Nat → Int32} {t h : Nat} (hT : WTk A t) (e : ∀ i, i < 7 → B (17 + 20 * t + i) = A (17 + 20 * t + i)) (e0 : aH B t h 0 = aH A t h 0) (g m : Int32) : aRight B t h g m = aRight A t h g m := by
  have eN : aLen B t = aLen A t := by unfold aLen; rw [show aT B t 0 = aT A t 0 from e 0 (by omega)]
  have h6 := hT.len.2
  unfold aRight
  rw [eN]
  refine cnt_congr (fun k hk => ?_)
  have eL : aL B t k = aL A t k := e (1 + k) (by omega)
  unfold aRead aLeft aHoles
  rw [eL, e0]
theorem inn_t_ex2 (hA : WA A) {x : Int32} (h : ¬ inn x 0 (A 0 - 1) = 0) : ∃ t, t < aN A ∧ x = nI t := by
  obtain ⟨hn, h8, -⟩ := hA.n
  rw [hn, inn_le (by omega)] at h
  by_cases c : x < 0
  · rw [if_pos c] at h
    exact absurd rfl h
  · obtain ⟨j, j1, j2⟩ := nI_of c
    rw [if_neg c] at h
    by_cases d : nI (aN A) ≤ x
    · rw [if_pos d] at h
      exact absurd rfl h
    · refine ⟨j, ?_, j2⟩
      by_cases y : j < aN A
      · exact y
      · exact absurd (by rw [j2]; exact nI_le (by omega) j1) d
theorem a_wet2 (C : CR w x A n H sv S) (hI : IV b A) (hy : DB b A) (a z p : Int32) {h : Nat} (hh : h < 2) (hz : zz (zz z) = nI h) (hp : ¬ inn p 1 9 = 0) : ∃ r w', F_L_wet x a (zz z) p w = some (r, w') ∧ AR w x (b + 1) n A H sv S r w' ∧ (lq (qWould a h p A) < 0 ∨ F_L_halfOf x a (zz z) 7 w' = some (lq (qWould a h p A))) := by
  have hA := C.2.2.1
  have P := p_wet C a z p hh hz
  have gW := g_wet hA a hh p
  have vW := fun y => vl_wet hA a hh p y
  have iW := fun y => iv_wet hI hA a hh p y
  unfold F_L_wet
  by_cases a1 : inn a 0 (A 0 - 1) = 0
  · have hq : lq (qWould a h p A) < 0 := by
      unfold qWould
      rw [if_pos a1]
      decide
    rcases P with ⟨h0, w', e, C', K⟩ | ⟨h0, q, w', e, he, C', K, k1, k2⟩
    · rw [fg_t C.1.1, e, Option.bind_some]
      exact ⟨_, _, rfl, AR.ok C' (iW h0) (hy.to gW.2) (vW h0) K, Or.inl hq⟩
    · rw [fg_t C.1.1, e, Option.bind_some]
      simp only [List.mem_cons, List.mem_nil_iff, or_false] at he
      rcases he with rfl | rfl
      · exact ⟨_, _, rfl, AR.no C' (by decide) K, Or.inl hq⟩
      · exact ⟨_, _, rfl, AR.no C' (by decide) K, Or.inl hq⟩
  · rcases P with ⟨h0, w', e, C', K⟩ | ⟨h0, q, w', e, he, C', K, k1, k2⟩
    · rw [fg_t C.1.1, e, Option.bind_some]
      refine ⟨_, _, rfl, AR.ok C' (iW h0) (hy.to gW.2) (vW h0) K, ?_⟩
      have hA' := gW.1
      obtain ⟨t, t1, rfl⟩ := inn_t_ex2 hA a1
      have hB : (sWet (nI t) h p A).2.2 = wetB t h p A := by
        unfold sWet
        rw [if_neg a1, if_neg hp, nI_clamp (by have := hA.n.2.1; omega)]
      rw [hB] at C' hA'
      obtain ⟨o1, o2⟩ := wet_own (A := A) (t := t) hh p
      unfold iH at o2
      have e0 : aH (wetB t h p A) t h 0 = aH A t h 0 := o2 _ (by omega) (by omega) (by omega)
      have eN : aN (wetB t h p A) = aN A := by unfold aN; rw [o2 0 (by omega) (by omega) (by omega)]
      rw [e_h7 C'.X hA' (by rw [eN]; exact t1) hh hz]
      have ep9 : pun (wetB t h p A) t h = pun A t h := by unfold pun; rw [e0]
      unfold qWould
      rw [if_neg a1, nI_clamp (by have := hA.n.2.1; omega)]
      have h09 : ¬ inn p 0 9 = 0 := by
        obtain ⟨j, j0, j1, j2⟩ := inn_1 (a := 1) (b := 9) (by decide) (by decide) hp
        rw [j2]
        have : j = 1 ∨ j = 2 ∨ j = 3 ∨ j = 4 ∨ j = 5 ∨ j = 6 ∨ j = 7 ∨ j = 8 ∨ j = 9 := by omega
        rcases this with y | y | y | y | y | y | y | y | y <;> (subst y; decide)
      rw [if_neg h09, ep9]
      by_cases c : pun A t h = 0
      · rw [if_pos c]
        exact Or.inl (by decide)
      · rw [if_neg c, if_neg c, lq_l, o1, e0, right_cg (hA.n.2.2 t t1) (fun i hi => o2 _ (by omega) (by omega) (by omega)) e0]
        exact Or.inr rfl
    · refine absurd ?_ h0
      unfold sWet
      rw [if_neg a1, if_neg hp]
end RID
