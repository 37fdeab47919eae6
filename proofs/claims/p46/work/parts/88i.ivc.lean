/-! What holds goes on to hold: tickets thrown away, tickets printed -/
section IVU
variable {A B : Nat → Int32} {b : Nat}
theorem TI_cg2 {u t : Nat} (hT : WTk A t) (e : ∀ i, i < 20 → B (17 + 20 * u + i) = A (17 + 20 * t + i)) : (TI A t → TI B u) ∧ oddA B u = oddA A t ∧ hoA B u = hoA A t := by
  have eT : ∀ i, i < 20 → aT B u i = aT A t i := e
  have eH : ∀ h i, h < 2 → i < 4 → aH B u h i = aH A t h i := fun h i hh hi => e _ (by omega)
  have eN : aLen B u = aLen A t := by unfold aLen; rw [eT 0 (by omega)]
  have h6 := hT.len.2
  have eL : ∀ k, k < aLen A t → aL B u k = aL A t k := fun k hk => e _ (by omega)
  have eV : nV B u = nV A t := by
    unfold nV
    rw [eN]
    exact sm_congr _ (fun k hk => by rw [eL k hk])
  have eO : ∀ h, h < 2 → nHo B u h = nHo A t h := fun h hh => by
    unfold nHo
    rw [eN]
    exact sm_congr _ (fun k hk => by rw [eL k hk, eH h 0 hh (by omega)])
  have eh : ∀ h, h < 2 → hoT B u h = hoT A t h := fun h hh => by
    unfold hoT
    rw [eH h 0 hh (by omega), eO h hh]
  refine ⟨fun ⟨i1, i2, i3, i4⟩ => ⟨by rw [eV]; exact i1, fun h hh => ?_, ?_, ?_⟩, ?_, ?_⟩
  · rw [eH h 0 hh (by omega), eH h 3 hh (by omega)]
    exact i2 h hh
  · rw [eH 1 3 (by omega) (by omega), eH 0 3 (by omega) (by omega)]
    exact i3
  · rw [eT 10 (by omega), eH 0 2 (by omega) (by omega), eH 1 2 (by omega) (by omega), eH 0 1 (by omega) (by omega), eH 1 1 (by omega) (by omega)]
    exact i4
  · unfold oddA
    rw [eH 1 3 (by omega) (by omega), eH 0 3 (by omega) (by omega)]
  · unfold hoA
    rw [eh 0 (by omega), eh 1 (by omega)]
theorem iv_eq (hI : IV b A) (hA : WA A) (e : ∀ i, i = 0 ∨ 2 ≤ i ∧ i ≤ 5 ∨ 17 ≤ i → B i = A i) : IV b B := by
  obtain ⟨i1, ⟨c, c1, c2, c3⟩, ⟨d, f, d1, d2, d3, d4⟩, ⟨g, g1, g2, g3⟩⟩ := hI
  have eN : aN B = aN A := by unfold aN; rw [e 0 (by omega)]
  have q : ∀ t, t < aN A → _ := fun t ht => TI_cg (hA.n.2.2 t ht) (B := B) (fun i hi => e _ (by omega))
  refine ⟨fun t ht => (q t (by rw [← eN]; exact ht)).1 (i1 t (by rw [← eN]; exact ht)), ⟨c, c1, by rw [eN]; exact c2, by rw [e 2 (by omega)]; exact c3⟩, ⟨d, f, d1, by rw [e 3 (by omega)]; exact d2, by rw [e 4 (by omega)]; exact d3, ?_⟩, ⟨g, g1, by rw [e 5 (by omega)]; exact g2, ?_⟩⟩
  · rw [eN, sm_congr _ (fun t ht => (q t ht).2.1)]
    exact d4
  · rw [eN, sm_congr _ (fun t ht => (q t ht).2.2)]
    exact g3
theorem sm_drop (f : Nat → Nat) (t : Nat) : ∀ m, t ≤ m → sm (fun u => f (if u < t then u else u + 1)) m + f t = sm f (m + 1) := by
  intro m
  induction m with
  | zero =>
    intro h
    obtain rfl : t = 0 := by omega
    rfl
  | succ m ih =>
    intro h
    by_cases c : t = m + 1
    · subst c
      rw [sm_congr (g := f) (m + 1) (fun k hk => by rw [if_pos hk]), sm_s f (m + 1)]
    · have := ih (by omega)
      rw [sm_s, sm_s f (m + 1), if_neg (by omega)]
      omega
theorem iv_away (hI : IV b A) (hA : WA A) (x : Int32) (h0 : (sAway x A).1 = 0) : IV (b + 1) (sAway x A).2.2 := by
  have hI := hI.up
  obtain ⟨hn, h8, hT⟩ := hA.n
  unfold sAway at h0 ⊢
  by_cases a1 : inn x 0 (A 0 - 1) = 0
  · rw [if_pos a1] at h0
    exact absurd h0 (show ¬ (-1 : Int32) = 0 by decide)
  obtain ⟨t, t1, t2⟩ := inn_t_ex hA a1
  rw [if_neg a1, t2]
  show IV (b + 1) (dropA t (aN A) A)
  obtain ⟨m, hm⟩ : ∃ m, aN A = m + 1 := ⟨aN A - 1, by omega⟩
  have hlow : ∀ i, ¬ i = 0 → i < 17 → dropA t (aN A) A i = A i := by
    intro i h1 h2
    unfold dropA
    rw [if_neg h1, if_neg (by omega), if_neg (by omega)]
  have e0 : dropA t (aN A) A 0 = nI m := by
    unfold dropA
    rw [if_pos rfl, hm]
    rfl
  have eU : ∀ u, u < m → ∀ i, i < 20 → dropA t (aN A) A (17 + 20 * u + i) = A (17 + 20 * (if u < t then u else u + 1) + i) := fun u hu i hi => by
    unfold dropA
    rw [hm, if_neg (by omega)]
    by_cases c : u < t
    · rw [if_pos c, if_neg (by omega), if_neg (by omega)]
    · rw [if_neg c, if_pos (by omega)]
      congr 1
      omega
  generalize dropA t (aN A) A = B at *
  obtain ⟨i1, ⟨c, c1, c2, c3⟩, ⟨d, f, d1, d2, d3, d4⟩, ⟨g, g1, g2, g3⟩⟩ := hI
  have eN : aN B = m := by unfold aN; rw [e0, nI_clamp (by omega)]
  have q : ∀ u, u < m → _ := fun u hu => TI_cg2 (hT (if u < t then u else u + 1) (by split <;> omega)) (B := B) (u := u) (eU u hu)
  have s1 := sm_drop (oddA A) t m (by omega)
  have s2 := sm_drop (hoA A) t m (by omega)
  refine ⟨fun u hu => (q u (by omega)).1 (i1 _ (by split <;> omega)), ⟨c, c1, by omega, by rw [hlow 2 (by omega) (by omega)]; exact c3⟩, ⟨d, f, d1, by rw [hlow 3 (by omega) (by omega)]; exact d2, by rw [hlow 4 (by omega) (by omega)]; exact d3, ?_⟩, ⟨g, g1, by rw [hlow 5 (by omega) (by omega)]; exact g2, ?_⟩⟩
  · rw [eN, sm_congr _ (fun u hu => (q u hu).2.1)]
    rw [hm] at d4
    omega
  · rw [eN, sm_congr _ (fun u hu => (q u hu).2.2)]
    rw [hm] at g3
    omega
theorem prn_z {n g j : Nat} (f t c : Int32) (G A : Nat → Int32) (h6 : g ≤ 6) (h1 : 6 < j) (h2 : j < 20) (h3 : ¬ j = 7 ∧ ¬ j = 8 ∧ ¬ j = 9 ∧ ¬ j = 11 ∧ ¬ j = 12 ∧ ¬ j = 16) : printA n g f t c G A (17 + 20 * n + j) = 0 := by
  unfold printA
  rw [if_neg (by omega), if_neg (by omega), if_pos (by omega), if_neg (by omega), if_neg (by omega), if_neg (by omega), if_neg (by omega), if_neg (by omega), if_neg (by omega), if_neg (by omega)]
theorem prn_12 (n g : Nat) (f t c : Int32) (G A : Nat → Int32) : printA n g f t c G A (17 + 20 * n + 12) = -1 := by
  unfold printA
  rw [if_neg (by omega), if_neg (by omega), if_pos (by omega), if_neg (by omega), if_pos (by omega)]
theorem prn_16 (n g : Nat) (f t c : Int32) (G A : Nat → Int32) : printA n g f t c G A (17 + 20 * n + 16) = -1 := by
  unfold printA
  rw [if_neg (by omega), if_neg (by omega), if_pos (by omega), if_pos (by omega)]
theorem prn_G {n g j : Nat} (f t c : Int32) (G A : Nat → Int32) (h6 : g ≤ 6) (h1 : j < g + 1) : printA n g f t c G A (17 + 20 * n + j) = G j := by
  unfold printA
  rw [if_neg (by omega), if_neg (by omega), if_pos (by omega), if_neg (by omega), if_neg (by omega), if_neg (by omega), if_neg (by omega), if_neg (by omega), if_neg (by omega), if_pos (by omega), show 17 + 20 * n + j - (17 + 20 * n) = j by omega]
theorem prn_o {n g i : Nat} (f t c : Int32) (G A : Nat → Int32) (h0 : ¬ i = 0) (h2 : ¬ i = 2) (h : i < 17 + 20 * n) : printA n g f t c G A i = A i := by
  unfold printA
  rw [if_neg h0, if_neg h2, if_neg (by omega)]
theorem iv_printA (hI : IV b A) (hA : WA A) {g : Nat} (h6 : g ≤ 6) {G : Nat → Int32} (hG0 : G 0 = nI g) (hv : ¬ gVow G g = 0) (f t c : Int32) : IV (b + 1) (printA (aN A) g f t c G A) := by
  obtain ⟨hn, h8, hT⟩ := hA.n
  have e0 : printA (aN A) g f t c G A 0 = nI (aN A + 1) := if_pos rfl
  have e2 : printA (aN A) g f t c G A 2 = A 2 + 1 := by
    unfold printA
    rw [if_neg (by decide), if_pos rfl]
  have eU : ∀ u, u < aN A → ∀ i, i < 20 → printA (aN A) g f t c G A (17 + 20 * u + i) = A (17 + 20 * u + i) := fun u hu i hi => prn_o f t c G A (by omega) (by omega) (by omega)
  have el : ∀ i, 2 < i → i < 17 → printA (aN A) g f t c G A i = A i := fun i h1 h2 => prn_o f t c G A (by omega) (by omega) (by omega)
  have z : ∀ j, 6 < j → j < 20 → (¬ j = 7 ∧ ¬ j = 8 ∧ ¬ j = 9 ∧ ¬ j = 11 ∧ ¬ j = 12 ∧ ¬ j = 16) → printA (aN A) g f t c G A (17 + 20 * aN A + j) = 0 := fun j h1 h2 h3 => prn_z f t c G A h6 h1 h2 h3
  have e12 : aH (printA (aN A) g f t c G A) (aN A) 0 0 = -1 := prn_12 _ _ f t c G A
  have e16 : aH (printA (aN A) g f t c G A) (aN A) 1 0 = -1 := prn_16 _ _ f t c G A
  have eG : ∀ j, j < g + 1 → printA (aN A) g f t c G A (17 + 20 * aN A + j) = G j := fun j hj => prn_G f t c G A h6 hj
  generalize printA (aN A) g f t c G A = B at *
  obtain ⟨i1, ⟨c, c1, c2, c3⟩, ⟨d, f, d1, d2, d3, d4⟩, ⟨g', g1, g2, g3⟩⟩ := hI
  have eN : aN B = aN A + 1 := by unfold aN; rw [e0, nI_clamp (by omega)]; rfl
  have q : ∀ u, u < aN A → _ := fun u hu => TI_cg (hT u hu) (B := B) (eU u hu)
  have z03 : aH B (aN A) 0 3 = 0 := z 15 (by omega) (by omega) (by omega)
  have z13 : aH B (aN A) 1 3 = 0 := z 19 (by omega) (by omega) (by omega)
  have z02 : aH B (aN A) 0 2 = 0 := z 14 (by omega) (by omega) (by omega)
  have z12 : aH B (aN A) 1 2 = 0 := z 18 (by omega) (by omega) (by omega)
  have z01 : aH B (aN A) 0 1 = 0 := z 13 (by omega) (by omega) (by omega)
  have z11 : aH B (aN A) 1 1 = 0 := z 17 (by omega) (by omega) (by omega)
  have eL : aLen B (aN A) = g := by
    unfold aLen
    rw [show aT B (aN A) 0 = G 0 from eG 0 (by omega), hG0, nI_clamp (by omega)]
  have hV : 1 ≤ nV B (aN A) := by
    have e9 : gVow G g = nI (nV B (aN A)) := by
      unfold nV
      rw [eL]
      exact cnt_sm _ (fun k hk => by
        rw [show aL B (aN A) k = G (1 + k) from eG (1 + k) (by omega), Nat.add_comm 1 k]
        unfold vN
        by_cases y : vow (G (k + 1)) = -1
        · rw [if_pos y, if_pos y]; rfl
        · rw [if_neg y, if_neg y]; rfl)
    by_cases y : nV B (aN A) = 0
    · rw [e9, y] at hv
      exact absurd rfl hv
    · omega
  have hod : oddA B (aN A) = 0 := by
    unfold oddA
    rw [z03, if_neg (by decide)]
  have hho : hoA B (aN A) = 0 := by
    unfold hoA hoT
    rw [if_pos e12, if_pos e16]
  refine ⟨fun u hu => ?_, ⟨c + 1, by omega, by omega, by rw [e2, c3, nI_1]⟩, ⟨d, f, by omega, by rw [el 3 (by omega) (by omega)]; exact d2, by rw [el 4 (by omega) (by omega)]; exact d3, ?_⟩, ⟨g', by omega, by rw [el 5 (by omega) (by omega)]; exact g2, ?_⟩⟩
  · by_cases y : u = aN A
    · rw [y]
      refine ⟨hV, fun h hh _ => ?_, fun w => ?_, fun _ => ?_⟩
      · have : h = 0 ∨ h = 1 := by omega
        rcases this with w | w
        · rw [w]; exact z03
        · rw [w]; exact z13
      · rw [z13] at w
        exact absurd w (by decide)
      · rw [z02, z12, z01, z11]
        exact ⟨rfl, by decide, by decide⟩
    · exact (q u (by omega)).1 (i1 u (by omega))
  · rw [eN, sm_s, hod, sm_congr _ (fun u hu => (q u hu).2.1)]
    omega
  · rw [eN, sm_s, hho, sm_congr _ (fun u hu => (q u hu).2.2)]
    omega
theorem iv_print (hI : IV b A) (hA : WA A) {g : Nat} (h6 : g ≤ 6) {G : Nat → Int32} (hG0 : G 0 = nI g) (f t c : Int32) (h0 : (sPrint g f t c G A).1 = 0) : IV (b + 1) (sPrint g f t c G A).2.2 := by
  unfold sPrint at h0 ⊢
  by_cases a1 : inn f 0 4 = 0
  · rw [if_pos a1] at h0
    exact absurd h0 (show ¬ (-1 : Int32) = 0 by decide)
  rw [if_neg a1] at h0 ⊢
  by_cases a2 : inn t 0 4 = 0
  · rw [if_pos a2] at h0
    exact absurd h0 (show ¬ (-1 : Int32) = 0 by decide)
  rw [if_neg a2] at h0 ⊢
  by_cases a3 : f = t
  · rw [if_pos a3] at h0
    exact absurd h0 (show ¬ (-2 : Int32) = 0 by decide)
  rw [if_neg a3] at h0 ⊢
  by_cases a4 : inn c 1 9 = 0
  · rw [if_pos a4] at h0
    exact absurd h0 (show ¬ (-2 : Int32) = 0 by decide)
  rw [if_neg a4] at h0 ⊢
  by_cases a5 : nI g < 2
  · rw [if_pos a5] at h0
    exact absurd h0 (show ¬ (2 : Int32) = 0 by decide)
  rw [if_neg a5] at h0 ⊢
  by_cases a6 : gVow G g = 0
  · rw [if_pos a6] at h0
    exact absurd h0 (show ¬ (2 : Int32) = 0 by decide)
  rw [if_neg a6] at h0 ⊢
  by_cases a7 : A 0 = 8
  · rw [if_pos a7] at h0
    exact absurd h0 (show ¬ (1 : Int32) = 0 by decide)
  rw [if_neg a7]
  exact iv_printA hI hA h6 hG0 a6 f t c
theorem iv_printD (hI : IV b A) (hA : WA A) {d : Nat} (hd : A 10 = nI d) (h6 : d ≤ 6) (f t c : Int32) (h0 : (sPrintD d f t c A).1 = 0) : IV (b + 1) (sPrintD d f t c A).2.2 := by
  unfold sPrintD at h0 ⊢
  by_cases a : (sPrint d f t c (fun k => A (10 + k)) A).1 = 0
  · rw [if_pos a]
    have hL : ∀ k, k < d → isLet ((fun k => A (10 + k)) (k + 1)) = 1 := fun k hk => by
      obtain ⟨n, n1, n2, n3, -⟩ := hA.2.1
      have : n = d := (nI_eq (by omega) (by omega)).mp (by rw [← n2, hd])
      show isLet (A (10 + (k + 1))) = 1
      rw [show 10 + (k + 1) = 11 + k by omega]
      exact n3 k (by omega)
    exact iv_eq (iv_print hI hA h6 (G := fun k => A (10 + k)) hd f t c a) (g_print hA h6 (G := fun k => A (10 + k)) hd hL f t c).1 (fun i hi => if_neg (by omega))
  · rw [if_neg a] at h0
    exact absurd h0 a
end IVU
