/-! What holds goes on to hold -/
section IVS
variable {A B : Nat → Int32} {b : Nat}
theorem sm_chg {f g : Nat → Nat} {t : Nat} : ∀ n, t < n → (∀ k, k < n → ¬ k = t → f k = g k) → sm f n + g t = sm g n + f t := by
  intro n
  induction n with
  | zero => intro h; omega
  | succ n ih =>
    intro h e
    rw [sm_s, sm_s]
    by_cases c : t = n
    · subst c
      have : sm f t = sm g t := sm_congr t (fun k hk => e k (by omega) (by omega))
      omega
    · have := ih (by omega) (fun k hk => e k (by omega))
      have := e n (by omega) (fun z => c z.symm)
      omega
theorem TI_cg {t : Nat} (hT : WTk A t) (e : ∀ i, i < 20 → B (17 + 20 * t + i) = A (17 + 20 * t + i)) : (TI A t → TI B t) ∧ oddA B t = oddA A t ∧ hoA B t = hoA A t := by
  have eT : ∀ i, i < 20 → aT B t i = aT A t i := e
  have eH : ∀ h i, h < 2 → i < 4 → aH B t h i = aH A t h i := fun h i hh hi => e _ (by omega)
  have eN : aLen B t = aLen A t := by unfold aLen; rw [eT 0 (by omega)]
  have h6 := hT.len.2
  have eL : ∀ k, k < aLen A t → aL B t k = aL A t k := fun k hk => e _ (by omega)
  have eV : nV B t = nV A t := by
    unfold nV
    rw [eN]
    exact sm_congr _ (fun k hk => by rw [eL k hk])
  have eO : ∀ h, h < 2 → nHo B t h = nHo A t h := fun h hh => by
    unfold nHo
    rw [eN]
    exact sm_congr _ (fun k hk => by rw [eL k hk, eH h 0 hh (by omega)])
  have eh : ∀ h, h < 2 → hoT B t h = hoT A t h := fun h hh => by
    unfold hoT
    rw [eH h 0 hh (by omega), eO h hh]
  refine ⟨fun ⟨i1, i2, i3, i4⟩ => ⟨by rw [eV]; exact i1, fun h hh => ?_, ?_, ?_⟩, ?_, ?_⟩
  · rw [eH h 0 hh (by omega), eH h 3 hh (by omega)]
    exact i2 h hh
  · rw [eH 1 3 (by omega) (by omega), eH 0 3 (by omega) (by omega)]
    exact i3
  · rw [eT 10 (by omega), eH 0 2 (by omega) (by omega), eH 1 2 (by omega) (by omega), eH 0 1 (by omega) (by omega), eH 1 1 (by omega) (by omega)]
    exact i4
  · unfold oddA
    rw [eH 1 3 (by omega) (by omega), eH 0 3 (by omega) (by omega)]
  · unfold hoA
    rw [eh 0 (by omega), eh 1 (by omega)]
theorem IV.up (hI : IV b A) : IV (b + 1) A := by
  obtain ⟨i1, ⟨c, c1, c2, c3⟩, ⟨d, f, d1, d2, d3, d4⟩, ⟨g, g1, g2, g3⟩⟩ := hI
  exact ⟨i1, ⟨c, by omega, c2, c3⟩, ⟨d, f, by omega, d2, d3, d4⟩, ⟨g, by omega, g2, g3⟩⟩
/-- nothing of what it speaks of is changed -/
theorem IV.same (hI : IV b A) (hA : WA A) (e : ∀ i, i = 0 ∨ 2 ≤ i ∧ i ≤ 5 ∨ 17 ≤ i → B i = A i) : IV (b + 1) B := by
  obtain ⟨i1, ⟨c, c1, c2, c3⟩, ⟨d, f, d1, d2, d3, d4⟩, ⟨g, g1, g2, g3⟩⟩ := hI.up
  have eN : aN B = aN A := by unfold aN; rw [e 0 (by omega)]
  have q : ∀ t, t < aN A → _ := fun t ht => TI_cg (hA.n.2.2 t ht) (B := B) (fun i hi => e _ (by omega))
  refine ⟨fun t ht => (q t (by rw [← eN]; exact ht)).1 (i1 t (by rw [← eN]; exact ht)), ⟨c, c1, by rw [eN]; exact c2, by rw [e 2 (by omega)]; exact c3⟩, ⟨d, f, d1, by rw [e 3 (by omega)]; exact d2, by rw [e 4 (by omega)]; exact d3, ?_⟩, ⟨g, g1, by rw [e 5 (by omega)]; exact g2, ?_⟩⟩
  · rw [eN, sm_congr _ (fun t ht => (q t ht).2.1)]
    exact d4
  · rw [eN, sm_congr _ (fun t ht => (q t ht).2.2)]
    exact g3
/-- one ticket is changed -/
theorem IV.one (hI : IV b A) (hA : WA A) {t0 : Nat} (h0 : t0 < aN A) (e0 : B 0 = A 0) (e2 : B 2 = A 2) (eT : ∀ t, ¬ t = t0 → ∀ i, i < 20 → B (17 + 20 * t + i) = A (17 + 20 * t + i)) (hT : TI B t0) {x y z : Nat} (hx : x ≤ 1) (hz : z ≤ 60) (e3 : B 3 = A 3 + nI x) (e4 : B 4 = A 4 + nI y) (e5 : B 5 = A 5 + nI z) (ho : y + oddA B t0 ≤ x + oddA A t0) (hh : hoA B t0 ≤ hoA A t0 + z) : IV (b + 1) B := by
  obtain ⟨i1, ⟨c, c1, c2, c3⟩, ⟨d, f, d1, d2, d3, d4⟩, ⟨g, g1, g2, g3⟩⟩ := hI
  have eN : aN B = aN A := by unfold aN; rw [e0]
  have q : ∀ t, t < aN A → ¬ t = t0 → _ := fun t ht hn => TI_cg (hA.n.2.2 t ht) (B := B) (eT t hn)
  have s1 := sm_chg (f := oddA B) (g := oddA A) (aN A) h0 (fun t ht hn => (q t ht hn).2.1)
  have s2 := sm_chg (f := hoA B) (g := hoA A) (aN A) h0 (fun t ht hn => (q t ht hn).2.2)
  refine ⟨fun t ht => ?_, ⟨c, by omega, by rw [eN]; exact c2, by rw [e2]; exact c3⟩, ⟨d + x, f + y, by omega, by rw [e3, d2, nI_add], by rw [e4, d3, nI_add], by rw [eN]; omega⟩, ⟨g + z, by omega, by rw [e5, g2, nI_add], by rw [eN]; omega⟩⟩
  by_cases e : t = t0
  · rw [e]; exact hT
  · exact (q t (by rw [← eN]; exact ht) e).1 (i1 t (by rw [← eN]; exact ht))
theorem nI_z (a : Int32) : a = a + nI 0 := (Int32.add_zero a).symm
theorem iv_letter (hI : IV b A) (hA : WA A) (c : Int32) (h : (sLetter c A).1 = 0) : IV (b + 1) (sLetter c A).2.2 := by
  obtain ⟨n, n1, n2, -⟩ := hA.2.1
  unfold sLetter at h ⊢
  by_cases a1 : isLet c = 0
  · rw [if_pos a1] at h
    exact absurd h (show ¬ (-1 : Int32) = 0 by decide)
  by_cases a2 : A 10 = 6
  · rw [if_neg a1, if_pos a2] at h
    exact absurd h (show ¬ (1 : Int32) = 0 by decide)
  rw [if_neg a1, if_neg a2]
  have hn : n < 6 := by
    by_cases z : n = 6
    · rw [n2, z] at a2; exact absurd rfl a2
    · omega
  refine hI.same hA (fun i hi => ?_)
  show _root_.ite _ _ _ = _
  rw [if_neg (by omega)]
  show _root_.ite _ _ _ = _
  rw [n2, nI_clamp (by omega), if_neg (by omega)]
end IVS
