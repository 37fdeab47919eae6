/-! What holds goes on to hold -/
section IVS
variable {A B : Nat → Int32} {b : Nat}
theorem sm_chg {f g : Nat → Nat} {t : Nat} : ∀ n, t < n → (∀ k, k < n → ¬ k = t → f k = g k) → sm f n + g t = sm g n + f t := by
  intro n
  induction n with
  | zero => intro h; omega
  | succ n ih =>
    intro h e
    rw [sm_s, sm_s]
    by_cases c : t = n
    · subst c
      have : sm f t = sm g t := sm_congr t (fun k hk => e k (by omega) (by omega))
      omega
    · have := ih (by omega) (fun k hk => e k (by omega))
      have := e n (by omega) (fun z => c z.symm)
      omega
theorem TI_cg {t : Nat} (hT : WTk A t) (e : ∀ i, i < 20 → B (17 + 20 * t + i) = A (17 + 20 * t + i)) : (TI A t → TI B t) ∧ oddA B t = oddA A t ∧ hoA B t = hoA A t := by
  have eT : ∀ i, i < 20 → aT B t i = aT A t i := e
  have eH : ∀ h i, h < 2 → i < 4 → aH B t h i = aH A t h i := fun h i hh hi => e _ (by omega)
  have eN : aLen B t = aLen A t := by unfold aLen; rw [eT 0 (by omega)]
  have h6 := hT.len.2
  have eL : ∀ k, k < aLen A t → aL B t k = aL A t k := fun k hk => e _ (by omega)
  have eV : nV B t = nV A t := by
    unfold nV
    rw [eN]
    exact sm_congr _ (fun k hk => by rw [eL k hk])
  have eO : ∀ h, h < 2 → nHo B t h = nHo A t h := fun h hh => by
    unfold nHo
    rw [eN]
    exact sm_congr _ (fun k hk => by rw [eL k hk, eH h 0 hh (by omega)])
  have eh : ∀ h, h < 2 → hoT B t h = hoT A t h := fun h hh => by
    unfold hoT
    rw [eH h 0 hh (by omega), eO h hh]
  refine ⟨fun ⟨i1, i2, i3, i4⟩ => ⟨by rw [eV]; exact i1, fun h hh => ?_, ?_, ?_⟩, ?_, ?_⟩
  · rw [eH h 0 hh (by omega), eH h 3 hh (by omega)]
    exact i2 h hh
  · rw [eH 1 3 (by omega) (by omega), eH 0 3 (by omega) (by omega)]
    exact i3
  · rw [eT 10 (by omega), eH 0 2 (by omega) (by omega), eH 1 2 (by omega) (by omega), eH 0 1 (by omega) (by omega), eH 1 1 (by omega) (by omega)]
    exact i4
  · unfold oddA
    rw [eH 1 3 (by omega) (by omega), eH 0 3 (by omega) (by omega)]
  · unfold hoA
    rw [eh 0 (by omega), eh 1 (by omega)]
theorem IV.up (hI : IV b A) : IV (b + 1) A := by
  obtain ⟨i1, ⟨c, c1, c2, c3⟩, ⟨d, f, d1, d2, d3, d4⟩, ⟨g, g1, g2, g3⟩⟩ := hI
  exact ⟨i1, ⟨c, by omega, c2, c3⟩, ⟨d, f, by omega, d2, d3, d4⟩, ⟨g, by omega, g2, g3⟩⟩
/-- nothing of what it speaks of is changed -/
theorem IV.same (hI : IV b A) (hA : WA A) (e : ∀ i, i = 0 ∨ 2 ≤ i ∧ i ≤ 5 ∨ 17 ≤ i → B i = A i) : IV (b + 1) B := by
  obtain ⟨i1, ⟨c, c1, c2, c3⟩, ⟨d, f, d1, d2, d3, d4⟩, ⟨g, g1, g2, g3⟩⟩ := hI.up
  have eN : aN B = aN A := by unfold aN; rw [e 0 (by omega)]
  have q : ∀ t, t < aN A → _ := fun t ht => TI_cg (hA.n.2.2 t ht) (B := B) (fun i hi => e _ (by omega))
  refine ⟨fun t ht => (q t (by rw [← eN]; exact ht)).1 (i1 t (by rw [← eN]; exact ht)), ⟨c, c1, by rw [eN]; exact c2, by rw [e 2 (by omega)]; exact c3⟩, ⟨d, f, d1, by rw [e 3 (by omega)]; exact d2, by rw [e 4 (by omega)]; exact d3, ?_⟩, ⟨g, g1, by rw [e 5 (by omega)]; exact g2, ?_⟩⟩
  · rw [eN, sm_congr _ (fun t ht => (q t ht).2.1)]
    exact d4
  · rw [eN, sm_congr _ (fun t ht => (q t ht).2.2)]
    exact g3
/-- one ticket is changed -/
theorem IV.one (hI : IV b A) (hA : WA A) {t0 : Nat} (h0 : t0 < aN A) (e0 : B 0 = A 0) (e2 : B 2 = A 2) (eT : ∀ t, ¬ t = t0 → ∀ i, i < 20 → B (17 + 20 * t + i) = A (17 + 20 * t + i)) (hT : TI B t0) {x y z : Nat} (hx : x ≤ 1) (hz : z ≤ 60) (e3 : B 3 = A 3 + nI x) (e4 : B 4 = A 4 + nI y) (e5 : B 5 = A 5 + nI z) (ho : y + oddA B t0 ≤ x + oddA A t0) (hh : hoA B t0 ≤ hoA A t0 + z) : IV (b + 1) B := by
  obtain ⟨i1, ⟨c, c1, c2, c3⟩, ⟨d, f, d1, d2, d3, d4⟩, ⟨g, g1, g2, g3⟩⟩ := hI
  have eN : aN B = aN A := by unfold aN; rw [e0]
  have q : ∀ t, t < aN A → ¬ t = t0 → _ := fun t ht hn => TI_cg (hA.n.2.2 t ht) (B := B) (eT t hn)
  have s1 := sm_chg (f := oddA B) (g := oddA A) (aN A) h0 (fun t ht hn => (q t ht hn).2.1)
  have s2 := sm_chg (f := hoA B) (g := hoA A) (aN A) h0 (fun t ht hn => (q t ht hn).2.2)
  refine ⟨fun t ht => ?_, ⟨c, by omega, by rw [eN]; exact c2, by rw [e2]; exact c3⟩, ⟨d + x, f + y, by omega, by rw [e3, d2, nI_add], by rw [e4, d3, nI_add], by rw [eN]; omega⟩, ⟨g + z, by omega, by rw [e5, g2, nI_add], by rw [eN]; omega⟩⟩
  by_cases e : t = t0
  · rw [e]; exact hT
  · exact (q t (by rw [← eN]; exact ht) e).1 (i1 t (by rw [← eN]; exact ht))
theorem nI_z (a : Int32) : a = a + nI 0 := (Int32.add_zero a).symm
theorem inn_t_ex (hA : WA A) {x : Int32} (h : ¬ inn x 0 (A 0 - 1) = 0) : ∃ t, t < aN A ∧ x.toNatClampNeg = t := by
  obtain ⟨hn, h8, -⟩ := hA.n
  rw [hn, inn_le (by omega)] at h
  by_cases c : x < 0
  · rw [if_pos c] at h
    exact absurd rfl h
  · obtain ⟨j, j1, j2⟩ := nI_of c
    rw [if_neg c] at h
    by_cases d : nI (aN A) ≤ x
    · rw [if_pos d] at h
      exact absurd rfl h
    · refine ⟨j, ?_, by rw [j2, nI_clamp j1]⟩
      by_cases y : j < aN A
      · exact y
      · exact absurd (by rw [j2]; exact nI_le (by omega) j1) d
theorem iv_letter (hI : IV b A) (hA : WA A) (c : Int32) (h : (sLetter c A).1 = 0) : IV (b + 1) (sLetter c A).2.2 := by
  obtain ⟨n, n1, n2, -⟩ := hA.2.1
  unfold sLetter at h ⊢
  by_cases a1 : isLet c = 0
  · rw [if_pos a1] at h
    exact absurd h (show ¬ (-1 : Int32) = 0 by decide)
  by_cases a2 : A 10 = 6
  · rw [if_neg a1, if_pos a2] at h
    exact absurd h (show ¬ (1 : Int32) = 0 by decide)
  rw [if_neg a1, if_neg a2]
  have hn : n < 6 := by
    by_cases z : n = 6
    · rw [n2, z] at a2; exact absurd rfl a2
    · omega
  refine hI.same hA (fun i hi => ?_)
  show up (up A (11 + (A 10).toNatClampNeg) c) 10 (A 10 + 1) i = A i
  rw [n2, nI_clamp (by omega), up_n (by omega), up_n (by omega)]
theorem iv_unletter (hI : IV b A) (hA : WA A) (h : (sUnletter A).1 = 0) : IV (b + 1) (sUnletter A).2.2 := by
  obtain ⟨n, n1, n2, -⟩ := hA.2.1
  unfold sUnletter at h ⊢
  by_cases a1 : A 10 = 0
  · rw [if_pos a1] at h
    exact absurd h (show ¬ (11 : Int32) = 0 by decide)
  rw [if_neg a1]
  have hn : 0 < n := by
    by_cases z : n = 0
    · rw [n2, z] at a1; exact absurd rfl a1
    · omega
  refine hI.same hA (fun i hi => ?_)
  show up (up A (10 + (A 10).toNatClampNeg) 0) 10 (A 10 - 1) i = A i
  rw [n2, nI_clamp (by omega), up_n (by omega), up_n (by omega)]
theorem iv_mood (hI : IV b A) (hA : WA A) (p m : Int32) (h : (sMood p m A).1 = 0) : IV (b + 1) (sMood p m A).2.2 := by
  unfold sMood at h ⊢
  by_cases a1 : inn p 0 2 = 0
  · rw [if_pos a1] at h
    exact absurd h (show ¬ (-1 : Int32) = 0 by decide)
  by_cases a2 : inn m 0 4 = 0
  · rw [if_neg a1, if_pos a2] at h
    exact absurd h (show ¬ (-2 : Int32) = 0 by decide)
  by_cases a3 : A (7 + p.toNatClampNeg) = m
  · rw [if_neg a1, if_neg a2, if_pos a3] at h
    exact absurd h (show ¬ (3 : Int32) = 0 by decide)
  rw [if_neg a1, if_neg a2, if_neg a3]
  obtain ⟨j, -, j1, j2⟩ := inn_1 (a := 0) (b := 2) (by decide) (by decide) a1
  refine hI.same hA (fun i hi => ?_)
  show up A (7 + p.toNatClampNeg) m i = A i
  rw [j2, nI_clamp (by omega), up_n (by omega)]
theorem iv_pier (hI : IV b A) (hA : WA A) (p z : Int32) (h : (sPier p z A).1 = 0) : IV (b + 1) (sPier p z A).2.2 := by
  unfold sPier at h ⊢
  by_cases a1 : inn p 0 4 = 0
  · rw [if_pos a1] at h
    exact absurd h (show ¬ (-1 : Int32) = 0 by decide)
  by_cases a2 : aShut A p.toNatClampNeg = z
  · rw [if_neg a1, if_pos a2]
    exact hI.same hA (fun i hi => up_n (by omega))
  · rw [if_neg a1, if_neg a2] at h
    exact absurd h (show ¬ (3 : Int32) = 0 by decide)
theorem iv_day (hI : IV b A) (hA : WA A) : IV (b + 1) (sDay A).2.2 := hI.same hA (fun i hi => up_n (by omega))
/-- a ticket of which only what is no part of its word and its punches is changed -/
theorem ho_same {t : Nat} (hT : WTk A t) (e : ∀ i, i < 7 → B (17 + 20 * t + i) = A (17 + 20 * t + i)) (e12 : aH B t 0 0 = aH A t 0 0) (e16 : aH B t 1 0 = aH A t 1 0) : nV B t = nV A t ∧ hoA B t = hoA A t := by
  have eN : aLen B t = aLen A t := by unfold aLen; rw [show aT B t 0 = aT A t 0 from e 0 (by omega)]
  have h6 := hT.len.2
  have eL : ∀ k, k < aLen A t → aL B t k = aL A t k := fun k hk => e (1 + k) (by omega)
  have eO : ∀ h, h < 2 → aH B t h 0 = aH A t h 0 → nHo B t h = nHo A t h := fun h hh y => by
    unfold nHo
    rw [eN]
    exact sm_congr _ (fun k hk => by rw [eL k hk, y])
  refine ⟨?_, ?_⟩
  · unfold nV
    rw [eN]
    exact sm_congr _ (fun k hk => by rw [eL k hk])
  · unfold hoA hoT
    rw [e12, e16, eO 0 (by omega) e12, eO 1 (by omega) e16]
theorem iv_tear (hI : IV b A) (hA : WA A) (x : Int32) (h : (sTear x A).1 = 0) : IV (b + 1) (sTear x A).2.2 := by
  unfold sTear at h ⊢
  by_cases a1 : inn x 0 (A 0 - 1) = 0
  · rw [if_pos a1] at h
    exact absurd h (show ¬ (-1 : Int32) = 0 by decide)
  by_cases a2 : aT A x.toNatClampNeg 10 = 1
  · rw [if_neg a1, if_pos a2] at h
    exact absurd h (show ¬ (3 : Int32) = 0 by decide)
  rw [if_neg a1, if_neg a2]
  obtain ⟨t, t1, t2⟩ := inn_t_ex hA a1
  rw [t2]
  show IV (b + 1) (up A (17 + 20 * t + 10) 1)
  have hT := hA.n.2.2 t t1
  have e : ∀ i, ¬ i = 17 + 20 * t + 10 → up A (17 + 20 * t + 10) 1 i = A i := fun i hi => up_n hi
  have e10 : aT (up A (17 + 20 * t + 10) 1) t 10 = 1 := up_s _ _ _
  generalize up A (17 + 20 * t + 10) 1 = B at *
  have eH : ∀ h i, h < 2 → i < 4 → aH B t h i = aH A t h i := fun h i hh hi => e _ (by omega)
  obtain ⟨v1, v2⟩ := ho_same (B := B) hT (fun i hi => e _ (by omega)) (eH 0 0 (by omega) (by omega)) (eH 1 0 (by omega) (by omega))
  obtain ⟨i1, i2, i3, i4⟩ := hI.1 t t1
  refine hI.one hA t1 (e _ (by omega)) (e _ (by omega)) (fun t' hn i hi => e _ (by omega)) ⟨by rw [v1]; exact i1, fun h hh => ?_, ?_, fun z => ?_⟩ (x := 0) (y := 0) (z := 0) (by omega) (by omega) (by rw [e 3 (by omega)]; exact nI_z _) (by rw [e 4 (by omega)]; exact nI_z _) (by rw [e 5 (by omega)]; exact nI_z _) ?_ (by omega)
  · rw [eH h 0 hh (by omega), eH h 3 hh (by omega)]
    exact i2 h hh
  · rw [eH 1 3 (by omega) (by omega), eH 0 3 (by omega) (by omega)]
    exact i3
  · rw [e10] at z
    exact absurd z (by decide)
  · unfold oddA
    rw [eH 1 3 (by omega) (by omega), eH 0 3 (by omega) (by omega)]
    omega
theorem iv_lost (hI : IV b A) (hA : WA A) (x : Int32) {h : Nat} (hh : h < 2) (v : Int32) (h0 : (sLost x h v A).1 = 0) : IV (b + 1) (sLost x h v A).2.2 := by
  unfold sLost at h0 ⊢
  by_cases a1 : inn x 0 (A 0 - 1) = 0
  · rw [if_pos a1] at h0
    exact absurd h0 (show ¬ (-1 : Int32) = 0 by decide)
  by_cases a2 : aH A x.toNatClampNeg h 2 = v
  · rw [if_neg a1, if_pos a2] at h0
    exact absurd h0 (show ¬ (3 : Int32) = 0 by decide)
  rw [if_neg a1, if_neg a2]
  obtain ⟨t, t1, t2⟩ := inn_t_ex hA a1
  rw [t2]
  show IV (b + 1) (lostA t h v A)
  have hT := hA.n.2.2 t t1
  have e : ∀ i, ¬ i = iH t 0 2 → ¬ i = iH t 1 2 → lostA t h v A i = A i := fun i h1 h2 => by
    unfold lostA
    have : h = 0 ∨ h = 1 := by omega
    rcases this with y | y
    · subst y
      split
      · rw [up_n h2, up_n h1]
      · rw [up_n h1]
    · subst y
      split
      · rw [up_n h1, up_n h2]
      · rw [up_n h2]
  have eJ : aT A t 10 = 0 → aH (lostA t h v A) t 0 2 = aH (lostA t h v A) t 1 2 := fun y => by
    unfold lostA
    rw [if_pos y]
    have n01 : ¬ iH t 0 2 = iH t 1 2 := by unfold iH; omega
    have : h = 0 ∨ h = 1 := by omega
    rcases this with z | z
    · subst z
      show up (up A (iH t 0 2) v) (iH t 1 2) v (iH t 0 2) = up (up A (iH t 0 2) v) (iH t 1 2) v (iH t 1 2)
      rw [up_s, up_n n01, up_s]
    · subst z
      show up (up A (iH t 1 2) v) (iH t 0 2) v (iH t 0 2) = up (up A (iH t 1 2) v) (iH t 0 2) v (iH t 1 2)
      rw [up_s, up_n (fun y => n01 y.symm), up_s]
  generalize lostA t h v A = B at *
  unfold iH at e
  have eH : ∀ h i, h < 2 → i < 4 → ¬ i = 2 → aH B t h i = aH A t h i := fun h i hh hi h2 => e _ (by omega) (by omega)
  have e10 : aT B t 10 = aT A t 10 := e _ (by omega) (by omega)
  obtain ⟨v1, v2⟩ := ho_same (B := B) hT (fun i hi => e _ (by omega) (by omega)) (eH 0 0 (by omega) (by omega) (by omega)) (eH 1 0 (by omega) (by omega) (by omega))
  obtain ⟨i1, i2, i3, i4⟩ := hI.1 t t1
  refine hI.one hA t1 (e _ (by omega) (by omega)) (e _ (by omega) (by omega)) (fun t' hn i hi => e _ (by omega) (by omega)) ⟨by rw [v1]; exact i1, fun h hh => ?_, ?_, fun z => ?_⟩ (x := 0) (y := 0) (z := 0) (by omega) (by omega) (by rw [e 3 (by omega) (by omega)]; exact nI_z _) (by rw [e 4 (by omega) (by omega)]; exact nI_z _) (by rw [e 5 (by omega) (by omega)]; exact nI_z _) ?_ (by omega)
  · rw [eH h 0 hh (by omega) (by omega), eH h 3 hh (by omega) (by omega)]
    exact i2 h hh
  · rw [eH 1 3 (by omega) (by omega) (by omega), eH 0 3 (by omega) (by omega) (by omega)]
    exact i3
  · rw [e10] at z
    rw [eH 0 1 (by omega) (by omega) (by omega), eH 1 1 (by omega) (by omega) (by omega)]
    exact ⟨eJ z, (i4 z).2⟩
  · unfold oddA
    rw [eH 1 3 (by omega) (by omega) (by omega), eH 0 3 (by omega) (by omega) (by omega)]
    omega
end IVS
