/-! Ranks, letters, words in figures -/
section NUMS
variable {A : Nat → Int32}
theorem left_n {t h : Nat} (hT : WTk A t) (hh : h < 2) : ∃ L, L ≤ 30 ∧ aLeftOf A t h = nI L := by
  obtain ⟨-, -, -, -, -, -, hH, -⟩ := id hT
  obtain ⟨-, ⟨g, g1, g2⟩, -⟩ := hH h hh
  by_cases h0 : aH A t h 0 = -1
  · have eh : ∀ k, aHoles A t h k = 0 := fun k => by
      unfold aHoles
      rw [if_pos h0]
      split
      · rfl
      · rfl
    refine ⟨0, by omega, ?_⟩
    unfold aLeftOf
    rw [cnt_congr (g := fun _ => 0) (fun k _ => ?_), cnt_zero]
    · rfl
    unfold aLeft
    rw [eh, g2, nI_div3 g g1]
    by_cases c : (0 : Int32) ≤ 0 - nI (g / 3)
    · rw [if_pos c]
      rw [Int32.le_iff_toInt_le] at c
      have : g / 3 = 0 ∨ g / 3 = 1 ∨ g / 3 = 2 ∨ g / 3 = 3 := by omega
      rcases this with y | y | y | y
      · rw [y]; rfl
      · rw [y] at c; exact absurd c (by decide)
      · rw [y] at c; exact absurd c (by decide)
      · rw [y] at c; exact absurd c (by decide)
    · rw [if_neg c]
  · obtain ⟨f1, f2, f3, f4, f5, f6, f7, f8, f9⟩ := half_n hT hh h0 g2 g1
    have hVl : nV A t ≤ aLen A t := vow_le hT
    have := (tick_word hT).2.2.1
    exact ⟨nLe A t h, by omega, f2⟩
theorem meas_ex (hA : WA A) {t : Nat} (ht : t < aN A) {j : Nat} (hj : j < 3) : ∃ q, q ≤ 60 ∧ aMeas A t (nI j) = nI q := by
  have hT := hA.n.2.2 t ht
  unfold aMeas
  have : j = 0 ∨ j = 1 ∨ j = 2 := by omega
  rcases this with e | e | e
  · subst e
    obtain ⟨-, -, -, -, -, -, hH, -⟩ := hT
    obtain ⟨-, ⟨g, g1, g2⟩, -⟩ := hH 0 (by omega)
    obtain ⟨-, ⟨g', g3, g4⟩, -⟩ := hH 1 (by omega)
    exact ⟨g + g', by omega, by rw [if_pos (show nI 0 = 0 from rfl), g2, g4, nI_add]⟩
  · subst e
    obtain ⟨a, a1, a2⟩ := left_n (h := 0) hT (by omega)
    obtain ⟨b, b1, b2⟩ := left_n (h := 1) hT (by omega)
    exact ⟨a + b, by omega, by rw [if_neg (show ¬ nI 1 = 0 by decide), if_pos (show nI 1 = 1 from rfl), a2, b2, nI_add]⟩
  · subst e
    obtain ⟨w1, w2, w3, -⟩ := tick_word hT
    exact ⟨aLen A t, by omega, by rw [if_neg (show ¬ nI 2 = 0 by decide), if_neg (show ¬ nI 2 = 1 by decide), w1]⟩
def meN (A : Nat → Int32) (m : Int32) (t : Nat) : Nat := (aMeas A t m).toNatClampNeg
theorem meas_n (hA : WA A) {t : Nat} (ht : t < aN A) {j : Nat} (hj : j < 3) : aMeas A t (nI j) = nI (meN A (nI j) t) ∧ meN A (nI j) t ≤ 60 := by
  obtain ⟨q, q1, q2⟩ := meas_ex hA ht hj
  unfold meN
  rw [q2, nI_clamp (by omega)]
  exact ⟨rfl, q1⟩
def bA (A : Nat → Int32) (m : Int32) (u t : Nat) : Nat := if meN A m t < meN A m u then 1 else if meN A m u = meN A m t then (if u < t then 1 else 0) else 0
theorem bA_1 {m : Int32} {u t : Nat} : bA A m u t = 1 ↔ (meN A m t < meN A m u ∨ meN A m u = meN A m t ∧ u < t) := by
  unfold bA
  by_cases c : meN A m t < meN A m u
  · rw [if_pos c]
    exact ⟨fun _ => Or.inl c, fun _ => rfl⟩
  · rw [if_neg c]
    by_cases d : meN A m u = meN A m t
    · rw [if_pos d]
      by_cases e : u < t
      · rw [if_pos e]
        exact ⟨fun _ => Or.inr ⟨d, e⟩, fun _ => rfl⟩
      · rw [if_neg e]
        exact ⟨fun z => absurd z (by decide), fun z => by omega⟩
    · rw [if_neg d]
      exact ⟨fun z => absurd z (by decide), fun z => by omega⟩
theorem bA_01 (m : Int32) (u t : Nat) : bA A m u t = 0 ∨ bA A m u t = 1 := by
  unfold bA
  split
  · exact Or.inr rfl
  · split
    · split
      · exact Or.inr rfl
      · exact Or.inl rfl
    · exact Or.inl rfl
theorem bA_i (m : Int32) (t : Nat) : bA A m t t = 0 := by
  rcases bA_01 (A := A) m t t with z | z
  · exact z
  · rw [bA_1] at z
    omega
theorem bA_t (m : Int32) (u s t : Nat) (h1 : bA A m u s = 1) (h2 : bA A m s t = 1) : bA A m u t = 1 := by
  rw [bA_1] at h1 h2 ⊢
  omega
theorem bA_c (m : Int32) (s t : Nat) (h : ¬ s = t) : bA A m s t = 1 ∨ bA A m t s = 1 := by
  rw [bA_1, bA_1]
  omega
theorem ahead_n (hA : WA A) {t : Nat} (ht : t < aN A) {j : Nat} (hj : j < 3) : aAhead A (nI j) t = nI (sm (fun u => bA A (nI j) u t) (aN A)) := cnt_sm _ (fun u hu => by
  obtain ⟨e1, b1⟩ := meas_n hA ht hj
  obtain ⟨e2, b2⟩ := meas_n hA hu hj
  rw [e1, e2]
  unfold bA
  by_cases c : meN A (nI j) t < meN A (nI j) u
  · rw [if_pos c, if_pos ((nI_ltI (by omega) (by omega)).mpr c)]
    rfl
  · rw [if_neg c, if_neg (fun z => c ((nI_ltI (by omega) (by omega)).mp z))]
    by_cases d : meN A (nI j) u = meN A (nI j) t
    · rw [if_pos d, if_pos ((nI_eq (by omega) (by omega)).mpr d)]
      split
      · rfl
      · rfl
    · rw [if_neg d, if_neg (fun z => d ((nI_eq (by omega) (by omega)).mp z))]
      rfl)
theorem inn_m {j : Nat} (hj : j < 3) : ¬ inn (nI j) 0 2 = 0 := by
  have : j = 0 ∨ j = 1 ∨ j = 2 := by omega
  rcases this with e | e | e <;> (subst e; decide)
theorem e_rank {w : FW} {x o : Nat} (X : XO w x o A) (hA : WA A) {j : Nat} (hj : j < 3) {p : Nat} (hp : p < aN A) : ∃ t, t < aN A ∧ sm (fun u => bA A (nI j) u t) (aN A) = p ∧ F_L_ranked x (nI j) (nI p) w = some (nI t) := by
  have h8 := hA.n.2.1
  rw [e_ranked X]
  unfold qRanked
  rw [if_neg (inn_m hj)]
  rcases find_r (P := fun t => aAhead A (nI j) t = nI p) (aN A) with ⟨t, e, m1, m2, m3⟩ | ⟨e, m1⟩
  · have hs := rank_lt (N := aN A) (bA_01 (A := A) (nI j)) (bA_i (nI j)) m1
    refine ⟨t, m1, ?_, ?_⟩
    · have m2' : aAhead A (nI j) t = nI p := m2
      rw [ahead_n hA m1 hj] at m2'
      exact (nI_eq (by omega) (by omega)).mp m2'
    · rw [e]
      rfl
  · obtain ⟨t, t1, t2⟩ := rank_ex (N := aN A) (bA_01 (A := A) (nI j)) (bA_i (nI j)) (bA_t (nI j)) (bA_c (nI j)) p hp
    exact absurd (by rw [ahead_n hA t1 hj, t2]) (m1 t t1)
theorem e_rankN {w : FW} {x o : Nat} (X : XO w x o A) (hA : WA A) : F_L_ranked x 0 (nI (aN A)) w = some (-75) := by
  have h8 := hA.n.2.1
  rw [e_ranked X]
  unfold qRanked
  rw [if_neg (show ¬ inn 0 0 2 = 0 by decide)]
  rcases find_r (P := fun t => aAhead A 0 t = nI (aN A)) (aN A) with ⟨t, e, m1, m2, m3⟩ | ⟨e, m1⟩
  · have hs := rank_lt (N := aN A) (bA_01 (A := A) (nI 0)) (bA_i (nI 0)) m1
    have m2' : aAhead A (nI 0) t = nI (aN A) := m2
    rw [ahead_n hA m1 (by omega)] at m2'
    have := (nI_eq (by omega) (by omega)).mp m2'
    omega
  · rw [e]
    rfl
/-- what is measured -/
theorem e_measure {w : FW} {x o : Nat} (X : XO w x o A) (hA : WA A) {j : Nat} (hj : j < 3) {t : Nat} (ht : t < aN A) : F_L_measure x (nI j) (nI t) w = some (nI (meN A (nI j) t)) := by
  rw [← (meas_n hA ht hj).1]
  unfold F_L_measure aMeas
  have : j = 0 ∨ j = 1 ∨ j = 2 := by omega
  rcases this with e | e | e
  · subst e
    rw [if_pos (show nI 0 = 0 from rfl), Option.bind_some, if_neg (show ¬ nI 0 = 2 by decide), e_h2 X hA ht (show 0 < 2 by decide) (show zz 0 = nI 0 by decide), Option.bind_some, e_h2 X hA ht (show 1 < 2 by decide) (show zz 1 = nI 1 by decide), Option.bind_some, if_pos (show nI 0 = 0 from rfl)]
  · subst e
    rw [if_neg (show ¬ nI 1 = 0 by decide), Option.bind_some, if_neg (show ¬ nI 1 = 2 by decide), e_h4 X hA ht (show 0 < 2 by decide) (show zz 0 = nI 0 by decide), Option.bind_some, e_h4 X hA ht (show 1 < 2 by decide) (show zz 1 = nI 1 by decide), Option.bind_some, if_neg (show ¬ nI 1 = 0 by decide), if_pos (show nI 1 = 1 from rfl)]
  · subst e
    rw [if_neg (show ¬ nI 2 = 0 by decide), Option.bind_some, if_pos (show nI 2 = 2 from rfl), e_t0 X hA ht, Option.bind_some, if_neg (show ¬ nI 2 = 0 by decide), if_neg (show ¬ nI 2 = 1 by decide)]
/-- how often a letter stands in words -/
def ofN (A : Nat → Int32) (j : Nat) : Nat := sm (fun t => sm (fun k => if aL A t k = nI (97 + j) then 1 else 0) (aLen A t)) (aN A)
theorem ofN_n (j : Nat) : cnt (fun t => aOftenT A (nI (97 + j)) t) (aN A) = nI (ofN A j) := cnt_sm _ (fun t _ => by
  unfold aOftenT
  exact cnt_sm _ (fun k _ => by
    by_cases c : aL A t k = nI (97 + j)
    · rw [if_pos c, if_pos c]; rfl
    · rw [if_neg c, if_neg c]; rfl))
theorem lets_6 (hA : WA A) {t : Nat} (ht : t < aN A) : aLen A t ≤ 6 := (tick_word (hA.n.2.2 t ht)).2.2.1
theorem ofN_le (hA : WA A) (j : Nat) : ofN A j ≤ 48 := by
  have h1 := sm_le (f := fun t => sm (fun k => if aL A t k = nI (97 + j) then 1 else 0) (aLen A t)) (g := fun _ => 6) (aN A) (fun t ht => by
    have h2 := sm_le (f := fun k => if aL A t k = nI (97 + j) then 1 else 0) (g := fun _ => 1) (aLen A t) (fun k _ => by split <;> omega)
    rw [sm_const] at h2
    have := lets_6 hA ht
    show sm (fun k => if aL A t k = nI (97 + j) then 1 else 0) (aLen A t) ≤ 6
    omega)
  rw [sm_const] at h1
  have := hA.n.2.1
  unfold ofN
  omega
theorem ofN_0 (hA : WA A) {j : Nat} (h : isLet (nI (97 + j)) = 0) : ofN A j = 0 := by
  unfold ofN
  refine (sm_congr (g := fun _ => 0) _ (fun t ht => ?_)).trans (sm_0 (aN A))
  refine (sm_congr (g := fun _ => 0) _ (fun k hk => ?_)).trans (sm_0 (aLen A t))
  by_cases c : aL A t k = nI (97 + j)
  · have := (tick_word (hA.n.2.2 t ht)).2.2.2.1 k hk
    rw [c, h] at this
    exact absurd this (by decide)
  · rw [if_neg c]
theorem e_oftenM {w : FW} {x o : Nat} (X : XO w x o A) (hA : WA A) (j : Nat) : ∃ r, F_L_often x (nI (97 + j)) w = some r ∧ F_J9_max_7cf53 0 r w = some (nI (ofN A j)) := by
  have h48 := ofN_le hA j
  rw [e_often X]
  unfold qOften F_J9_max_7cf53
  rcases isLet_01 (nI (97 + j)) with c | c
  · refine ⟨_, rfl, ?_⟩
    rw [if_pos c, lq_r, ofN_0 hA c]
    rfl
  · refine ⟨_, rfl, ?_⟩
    rw [if_neg (show ¬ isLet (nI (97 + j)) = 0 by rw [c]; decide), lq_l, ofN_n, ite_some]
    by_cases z : ofN A j = 0
    · rw [z]; rfl
    · rw [if_pos (show (0 : Int32) < nI (ofN A j) from nI_lt (a := 0) (by omega) (by omega))]
theorem often_all (hA : WA A) : sm (ofN A) 26 = sm (fun t => aLen A t) (aN A) := by
  have e1 : sm (ofN A) 26 = sm (fun t => sm (fun j => sm (fun k => if aL A t k = nI (97 + j) then 1 else 0) (aLen A t)) 26) (aN A) := sm_swap (fun j t => sm (fun k => if aL A t k = nI (97 + j) then 1 else 0) (aLen A t)) (aN A) 26
  rw [e1]
  refine sm_congr _ (fun t ht => ?_)
  rw [sm_swap (fun j k => if aL A t k = nI (97 + j) then 1 else 0) (aLen A t) 26]
  have e2 : sm (fun k => sm (fun j => if aL A t k = nI (97 + j) then 1 else 0) 26) (aLen A t) = sm (fun _ => 1) (aLen A t) := sm_congr _ (fun k hk => by
    obtain ⟨j, j1, j2⟩ := let_26 ((tick_word (hA.n.2.2 t ht)).2.2.2.1 k hk)
    refine sm_one (r := j) j1 (if_pos j2) (fun i hi hne => if_neg (fun z => hne ?_))
    rw [j2] at z
    have := (nI_eq (by omega) (by omega)).mp z
    omega)
  rw [e2, sm_const, Nat.mul_one]
/-- tickets of one word -/
noncomputable def eN (A : Nat → Int32) (a b : Nat) : Nat := @ite _ (aEqW A a b = 0) (inferInstance) 0 1
theorem eN_1 {a b : Nat} : eN A a b = 1 ↔ aEqW A a b = 1 := by
  unfold eN
  rcases eqW_01 A a b with z | z
  · rw [if_pos z, z]
    exact ⟨fun y => absurd y (by decide), fun y => absurd y (by decide)⟩
  · rw [if_neg (by rw [z]; decide), z]
    exact ⟨fun _ => rfl, fun _ => rfl⟩
theorem eN_01 (a b : Nat) : eN A a b = 0 ∨ eN A a b = 1 := by
  unfold eN
  split
  · exact Or.inl rfl
  · exact Or.inr rfl
theorem eN_r (a : Nat) : eN A a a = 1 := eN_1.mpr ((eqW_iff a a).mpr (fun _ _ => rfl))
theorem eN_s (a b : Nat) (h : eN A a b = 1) : eN A b a = 1 := eN_1.mpr ((eqW_iff b a).mpr (fun k hk => ((eqW_iff a b).mp (eN_1.mp h) k hk).symm))
theorem eN_t (a b c : Nat) (h : eN A a b = 1) (h' : eN A b c = 1) : eN A a c = 1 := eN_1.mpr ((eqW_iff a c).mpr (fun k hk => ((eqW_iff a b).mp (eN_1.mp h) k hk).trans ((eqW_iff b c).mp (eN_1.mp h') k hk)))
theorem eN_n (a b : Nat) : (if aEqW A a b = 0 then (0 : Int32) else 1) = nI (eN A a b) := by
  unfold eN
  by_cases c : aEqW A a b = 0
  · rw [if_pos c, if_pos c]; rfl
  · rw [if_neg c, if_neg c]; rfl
theorem share_n (a : Nat) (N : Nat) : cnt (fun u => if aEqW A a u = 0 then (0 : Int32) else 1) N = nI (sm (eN A a) N) := cnt_sm _ (fun u _ => eN_n a u)
theorem share_8 {t N : Nat} (ht : t < N) : 1 ≤ sm (eN A t) N ∧ sm (eN A t) N ≤ N := by
  constructor
  · by_cases z : sm (eN A t) N = 0
    · have := sm_z z t ht
      rw [eN_r] at this
      omega
    · omega
  · have := sm_le (f := eN A t) (g := fun _ => 1) N (fun k _ => by rcases eN_01 (A := A) t k with z | z <;> omega)
    rw [sm_const] at this
    omega
theorem div_840 : ∀ s, s < 9 → 1 ≤ s → (840 : Int32) / nI s = nI (840 / s) := by decide +kernel
theorem words_n (h8 : aN A ≤ 8) : aWords A = nI (sm (fst1 (eN A)) (aN A)) := cnt_sm _ (fun a ha => by
  unfold aAheadW fst1
  rw [share_n]
  by_cases c : sm (eN A a) a = 0
  · rw [if_pos c, c, if_pos (show nI 0 = 0 from rfl)]
    rfl
  · have h1 := sm_le (f := eN A a) (g := fun _ => 1) a (fun k _ => by rcases eN_01 (A := A) a k with z | z <;> omega)
    rw [sm_const] at h1
    rw [if_neg c, if_neg (nI_ne0 (by omega) (by omega))]
    rfl)
theorem words_840 (hA : WA A) : 840 * aWords A = cnt (fun t => 840 / cnt (fun u => if aEqW A t u = 0 then (0 : Int32) else 1) (aN A)) (aN A) := by
  have h8 := hA.n.2.1
  have e : cnt (fun t => 840 / cnt (fun u => if aEqW A t u = 0 then (0 : Int32) else 1) (aN A)) (aN A) = nI (sm (fun t => 840 / sm (eN A t) (aN A)) (aN A)) := cnt_sm _ (fun t ht => by
    obtain ⟨s1, s2⟩ := share_8 (A := A) ht
    rw [share_n, div_840 _ (by omega) s1])
  rw [e, share_sum eN_01 eN_r eN_s eN_t h8, words_n h8, show (840 : Int32) = nI 840 from rfl, nI_mul]
end NUMS
