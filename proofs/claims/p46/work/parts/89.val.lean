/-! What acts that are done answer -/
section VAL
variable {A : Nat → Int32} {b : Nat}
theorem vb_cnt {f : Nat → Int32} {B n : Nat} (hn : n ≤ 8) (hB : B ≤ 1000) (h : ∀ k, k < n → ∃ c, c ≤ B ∧ f k = nI c) : ∃ k, k < 2000000 ∧ cnt f n = nI k := by
  obtain ⟨s, s1, s2⟩ := cnt_bd (f := f) (B := B) n h
  refine ⟨s, ?_, s2⟩
  have : B * n ≤ 1000 * 8 := Nat.mul_le_mul hB hn
  omega
theorem vl_letter (hA : WA A) (c : Int32) (h0 : (sLetter c A).1 = 0) : ∃ k, k < 2000000 ∧ (sLetter c A).2.1 = nI k := by
  obtain ⟨n, n1, n2, -⟩ := hA.2.1
  unfold sLetter at h0 ⊢
  by_cases a1 : isLet c = 0
  · rw [if_pos a1] at h0
    exact absurd h0 (show ¬ (-1 : Int32) = 0 by decide)
  by_cases a2 : A 10 = 6
  · rw [if_neg a1, if_pos a2] at h0
    exact absurd h0 (show ¬ (1 : Int32) = 0 by decide)
  rw [if_neg a1, if_neg a2]
  exact ⟨n + 1, by omega, by rw [n2]; exact nI_1 n⟩
theorem vl_unletter (hA : WA A) (h0 : (sUnletter A).1 = 0) : ∃ k, k < 2000000 ∧ (sUnletter A).2.1 = nI k := by
  obtain ⟨n, n1, n2, -⟩ := hA.2.1
  unfold sUnletter at h0 ⊢
  by_cases a1 : A 10 = 0
  · rw [if_pos a1] at h0
    exact absurd h0 (show ¬ (11 : Int32) = 0 by decide)
  rw [if_neg a1]
  have hn : 0 < n := by
    by_cases z : n = 0
    · rw [n2, z] at a1; exact absurd rfl a1
    · omega
  exact ⟨n - 1, by omega, by rw [n2]; exact nI_sub (b := 1) hn (by omega)⟩
theorem vl_mood (hA : WA A) (p m : Int32) (h0 : (sMood p m A).1 = 0) : ∃ k, k < 2000000 ∧ (sMood p m A).2.1 = nI k := by
  unfold sMood at h0 ⊢
  by_cases a1 : inn p 0 2 = 0
  · rw [if_pos a1] at h0
    exact absurd h0 (show ¬ (-1 : Int32) = 0 by decide)
  by_cases a2 : inn m 0 4 = 0
  · rw [if_neg a1, if_pos a2] at h0
    exact absurd h0 (show ¬ (-2 : Int32) = 0 by decide)
  by_cases a3 : A (7 + p.toNatClampNeg) = m
  · rw [if_neg a1, if_neg a2, if_pos a3] at h0
    exact absurd h0 (show ¬ (3 : Int32) = 0 by decide)
  rw [if_neg a1, if_neg a2, if_neg a3]
  obtain ⟨j, -, j1, j2⟩ := inn_1 (a := 0) (b := 2) (by decide) (by decide) a1
  obtain ⟨q, q1, q2⟩ := hA.2.2.1 j (by omega)
  exact ⟨q, by omega, by rw [j2, nI_clamp (by omega)]; exact q2⟩
theorem open_v (B : Nat → Int32) : ∃ k, k < 2000000 ∧ aOpen B = nI k := vb_cnt (B := 1) (by omega) (by omega) (fun k _ => by
  by_cases c : aShut B k = 0
  · exact ⟨1, by omega, by rw [if_pos c]; rfl⟩
  · exact ⟨0, by omega, by rw [if_neg c]; rfl⟩)
theorem vl_pier (p z : Int32) (h0 : (sPier p z A).1 = 0) : ∃ k, k < 2000000 ∧ (sPier p z A).2.1 = nI k := by
  unfold sPier at h0 ⊢
  by_cases a1 : inn p 0 4 = 0
  · rw [if_pos a1] at h0
    exact absurd h0 (show ¬ (-1 : Int32) = 0 by decide)
  by_cases a2 : aShut A p.toNatClampNeg = z
  · rw [if_neg a1, if_pos a2]
    exact open_v _
  · rw [if_neg a1, if_neg a2] at h0
    exact absurd h0 (show ¬ (3 : Int32) = 0 by decide)
theorem vl_day (hA : WA A) : ∃ k, k < 2000000 ∧ (sDay A).2.1 = nI k := by
  obtain ⟨-, -, -, -, d, d1, d2⟩ := hA
  exact ⟨d + 1, by omega, by show A 1 + 1 = _; rw [d2, nI_1]⟩
theorem torn_v {B : Nat → Int32} (hB : WA B) : ∃ k, k < 2000000 ∧ aTorn B = nI k := by
  obtain ⟨hn, h8, hT⟩ := hB.n
  refine vb_cnt (B := 1) h8 (by omega) (fun t ht => ?_)
  rcases (hT t ht).2.2.2.2.1 with y | y
  · exact ⟨0, by omega, by rw [y]; rfl⟩
  · exact ⟨1, by omega, by rw [y]; rfl⟩
theorem lost_v {B : Nat → Int32} (hB : WA B) : ∃ k, k < 2000000 ∧ aLost B = nI k := by
  obtain ⟨hn, h8, hT⟩ := hB.n
  refine vb_cnt (B := 2) h8 (by omega) (fun t ht => ?_)
  have tH := (hT t ht).2.2.2.2.2.2.1
  rcases (tH 0 (by omega)).2.2.1 with y | y <;> rcases (tH 1 (by omega)).2.2.1 with z | z <;> rw [y, z]
  · exact ⟨0, by omega, rfl⟩
  · exact ⟨1, by omega, rfl⟩
  · exact ⟨1, by omega, rfl⟩
  · exact ⟨2, by omega, rfl⟩
theorem vl_tear (hA : WA A) (x : Int32) (h0 : (sTear x A).1 = 0) : ∃ k, k < 2000000 ∧ (sTear x A).2.1 = nI k := by
  have g := (g_tear hA x).1
  unfold sTear at h0 g ⊢
  by_cases a1 : inn x 0 (A 0 - 1) = 0
  · rw [if_pos a1] at h0
    exact absurd h0 (show ¬ (-1 : Int32) = 0 by decide)
  by_cases a2 : aT A x.toNatClampNeg 10 = 1
  · rw [if_neg a1, if_pos a2] at h0
    exact absurd h0 (show ¬ (3 : Int32) = 0 by decide)
  rw [if_neg a1, if_neg a2] at g ⊢
  exact torn_v g
theorem vl_lost (hA : WA A) (x : Int32) {h : Nat} (hh : h < 2) {v : Int32} (hv : v = 0 ∨ v = 1) (h0 : (sLost x h v A).1 = 0) : ∃ k, k < 2000000 ∧ (sLost x h v A).2.1 = nI k := by
  have g := (g_lost hA x hh hv).1
  unfold sLost at h0 g ⊢
  by_cases a1 : inn x 0 (A 0 - 1) = 0
  · rw [if_pos a1] at h0
    exact absurd h0 (show ¬ (-1 : Int32) = 0 by decide)
  by_cases a2 : aH A x.toNatClampNeg h 2 = v
  · rw [if_neg a1, if_pos a2] at h0
    exact absurd h0 (show ¬ (3 : Int32) = 0 by decide)
  rw [if_neg a1, if_neg a2] at g ⊢
  exact lost_v g
theorem vl_wet (hA : WA A) (x : Int32) {h : Nat} (hh : h < 2) (p : Int32) (h0 : (sWet x h p A).1 = 0) : ∃ k, k < 2000000 ∧ (sWet x h p A).2.1 = nI k := by
  have g := (g_wet hA x hh p).1
  unfold sWet at h0 g ⊢
  by_cases a1 : inn x 0 (A 0 - 1) = 0
  · rw [if_pos a1] at h0
    exact absurd h0 (show ¬ (-1 : Int32) = 0 by decide)
  by_cases a2 : inn p 1 9 = 0
  · rw [if_neg a1, if_pos a2] at h0
    exact absurd h0 (show ¬ (-2 : Int32) = 0 by decide)
  rw [if_neg a1, if_neg a2] at g ⊢
  obtain ⟨t, t1, t2⟩ := inn_t_ex hA a1
  rw [t2] at g ⊢
  change WA (wetB t h p A) at g
  have eN : aN (wetB t h p A) = aN A := by
    unfold aN
    have : wetB t h p A 0 = A 0 := by
      have ew : ∀ t h q A, wetA t h q A 0 = A 0 := fun t h q A => up_n (by unfold iH; omega)
      unfold wetB
      split
      · split
        · rw [up_n (by omega), ew, ew]
        · split
          · rw [ew, ew]
          · rw [up_n (by omega), ew, ew]
      · exact ew _ _ _ _
    rw [this]
  obtain ⟨-, ⟨q, q1, q2⟩, -⟩ := (g.n.2.2 t (by rw [eN]; exact t1)).2.2.2.2.2.2.1 h hh
  exact ⟨q, by omega, q2⟩
theorem vl_away (hA : WA A) (x : Int32) (h0 : (sAway x A).1 = 0) : ∃ k, k < 2000000 ∧ (sAway x A).2.1 = nI k := by
  have h8 := hA.n.2.1
  unfold sAway at h0 ⊢
  by_cases a1 : inn x 0 (A 0 - 1) = 0
  · rw [if_pos a1] at h0
    exact absurd h0 (show ¬ (-1 : Int32) = 0 by decide)
  rw [if_neg a1]
  exact ⟨aN A - 1, by omega, rfl⟩
/-- a ride that is done answers at least 1 -/
theorem vl_ride (hI : IV b A) (hb : b ≤ 100000) (x : Int32) {h : Nat} (hh : h < 2) (h0 : (sRide x h A).1 = 0) : ∃ k, 1 ≤ k ∧ k < 2000000 ∧ (sRide x h A).2.1 = nI k := by
  obtain ⟨-, -, ⟨c, d, d1, d2, d3, d4⟩, -⟩ := hI
  unfold sRide at h0 ⊢
  by_cases a1 : inn x 0 (A 0 - 1) = 0
  · rw [if_pos a1] at h0
    exact absurd h0 (show ¬ (-1 : Int32) = 0 by decide)
  by_cases a2 : ¬ (sHind x.toNatClampNeg h A).1 ≤ 0
  · rw [if_neg a1, if_neg a2] at h0
    refine absurd (?_ : (sHind x.toNatClampNeg h A).1 ≤ 0) a2
    rw [show (sHind x.toNatClampNeg h A).1 = 0 from h0]
    decide
  rw [Classical.not_not] at a2
  rw [if_neg a1, if_pos a2]
  refine ⟨c + d + 1, by omega, by omega, ?_⟩
  show rideA x.toNatClampNeg h A 3 + rideA x.toNatClampNeg h A 4 = _
  unfold rideA
  have hd : h = 0 ∨ h = 1 := by omega
  rcases hd with y | y
  · subst y
    rw [if_pos rfl, up_s, up_n (show ¬ 4 = 3 by decide), up_n (show ¬ 4 = 17 + 20 * x.toNatClampNeg + 11 by omega), up_n (show ¬ 4 = 17 + 20 * x.toNatClampNeg + (12 + 4 * 0 + 3) by omega), d2, d3, nI_1, nI_add]
    congr 1
    omega
  · subst y
    rw [if_neg (by decide), up_s, up_n (show ¬ 3 = 4 by decide), up_n (show ¬ 3 = 17 + 20 * x.toNatClampNeg + (12 + 4 * 1 + 3) by omega), d2, d3, nI_1, nI_add]
    congr 1
end VAL
