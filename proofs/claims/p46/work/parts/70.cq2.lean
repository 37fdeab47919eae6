/-! The class: words, often, ranked, isRight, accounts, numbers -/
theorem cnt_z (f : Nat → Int32) (hf : ∀ k, f k = 0 ∨ f k = 1) (n : Nat) : ∃ c, c ≤ n ∧ cnt f n = nI c ∧ (c = 0 ↔ ∀ k, k < n → f k = 0) := by
  induction n with
  | zero => exact ⟨0, by omega, rfl, ⟨fun _ k hk => by omega, fun _ => rfl⟩⟩
  | succ n ih =>
    obtain ⟨c, h1, h2, h3⟩ := ih
    rcases hf n with h0 | h0
    · refine ⟨c, by omega, by rw [cnt_s, h2, h0, Int32.add_zero], ⟨fun e k hk => ?_, fun e => h3.mpr (fun k hk => e k (by omega))⟩⟩
      by_cases hkn : k = n
      · rw [hkn]; exact h0
      · exact h3.mp e k (by omega)
    · refine ⟨c + 1, by omega, by rw [cnt_s, h2, h0, nI_succ], ⟨fun e => by omega, fun e => ?_⟩⟩
      have := e n (by omega)
      rw [h0] at this
      exact absurd this (by decide)
theorem nI_z0 {c : Nat} (hc : c < 2 ^ 31) : (nI c = 0) = (c = 0) := by
  apply propext
  constructor
  · intro z
    have := congrArg Int32.toNatClampNeg z
    rw [nI_clamp hc] at this
    exact this
  · intro z
    rw [z]
    rfl
theorem nI_inj {a b : Nat} (ha : a < 2 ^ 31) (hb : b < 2 ^ 31) : (nI a = nI b) = (a = b) := by
  apply propext
  constructor
  · intro z
    have := congrArg Int32.toNatClampNeg z
    rw [nI_clamp ha, nI_clamp hb] at this
    exact this
  · intro z
    rw [z]
theorem eqW_01 (A : Nat → Int32) (a b : Nat) : aEqW A a b = 0 ∨ aEqW A a b = 1 := by
  unfold aEqW
  by_cases h : ∀ k, k < 7 → aT A a k = aT A b k
  · exact Or.inr (if_pos h)
  · exact Or.inl (if_neg h)
theorem eqW_self (A : Nat → Int32) (a : Nat) : aEqW A a a = 1 := if_pos (fun _ _ => rfl)
theorem first_iff {A : Nat → Int32} {t : Nat} (h8 : aN A ≤ 8) (ht : t < aN A) : (aFirst A t = nI t) = (aAheadW A t = 0) := by
  obtain ⟨c, h1, h2, h3⟩ := cnt_z (fun b => if aEqW A t b = 0 then 0 else 1) (fun k => by by_cases z : aEqW A t k = 0; exact Or.inl (if_pos z); exact Or.inr (if_neg z)) t
  have e1 : aAheadW A t = nI c := h2
  rw [e1, nI_z0 (by omega)]
  apply propext
  rw [h3]
  unfold aFirst
  cases hf : (List.range (aN A)).find? (fun i => decide (¬ aEqW A i t = 0)) with
  | none =>
    have := List.find?_eq_none.mp hf t (List.mem_range.mpr ht)
    rw [eqW_self] at this
    simp at this
  | some i =>
    have hp : ¬ aEqW A i t = 0 := by have := List.find?_some hf; simpa using this
    have hi : i < aN A := List.mem_range.mp (List.mem_of_find?_eq_some hf)
    have h0 : ∀ j, j < i → aEqW A j t = 0 := by
      intro j hj
      obtain ⟨_, as, bs, h1, h2⟩ := List.find?_eq_some_iff_append.mp hf
      have hl : as.length = i := by
        have e1 : (List.range (aN A))[as.length]? = some i := by rw [h1]; simp
        rw [List.getElem?_range (by have := congrArg List.length h1; simp at this; omega)] at e1
        exact Option.some.inj e1
      have hm : j ∈ as := by
        have e1 : (List.range (aN A))[j]? = some j := List.getElem?_range (by omega)
        rw [h1, List.getElem?_append_left (by omega)] at e1
        exact List.mem_of_getElem? e1
      have := h2 j hm
      simpa using this
    constructor
    · intro z
      have hit : i = t := by
        have z2 : nI i = nI t := z
        rw [nI_inj (by omega) (by omega)] at z2
        exact z2
      intro k hk
      rw [if_pos ?_]
      rw [eqW_sy]
      exact h0 k (by omega)
    · intro z
      have hit : ¬ i < t := by
        intro y
        have := z i y
        rw [if_neg (by rw [eqW_sy]; exact hp)] at this
        exact absurd this (by decide)
      have hti : ¬ t < i := by
        intro y
        have := h0 t y
        rw [eqW_self] at this
        exact absurd this (by decide)
      rw [show i = t by omega]
section CQ2
variable {w : FW} {x o : Nat} {A : Nat → Int32}
theorem cq_words (X : XO w x o A) : F_X4_words x w = some (aWords A) := by
  obtain ⟨x1, x2, K⟩ := X
  obtain ⟨k1, k2, l1, k3, l2, k4, l3, r1, r2, r3, r4⟩ := K.s
  obtain ⟨n1, h8⟩ := K.n
  unfold F_X4_words aWords
  refine fLoop_bind (fun k => (cnt (fun a => if aAheadW A a = 0 then 1 else 0) k, nI k)) (aN A) rfl (fun t hk => ?_) ?_ rfl
  · have c1 : ¬ nI (aN A) ≤ nI t := nI_ge hk (by omega)
    have e1 := nI_clamp (n := t) (by omega)
    have T := K.T hk
    obtain ⟨q1, q2, q3, q4⟩ := T.w
    simp (disch := first | assumption | decide | ((simp only [x1, x2, k1, k2, l1, r1, n1, e1, q1, q2, q3]) <;> first | assumption | decide | (with_reducible apply ix_ok rfl <;> first | assumption | omega | decide) | (with_reducible apply ix_ok2 <;> first | assumption | omega | decide) | skip) | skip) only [fg_t, Option.bind_some, x1, x2, k1, k2, l1, r1, n1, e1, q1, q2, q3, if_neg c1, c_firstWith K hk, first_iff h8 hk, st_l1, nI_1, cnt_s]
  · have c1 : nI (aN A) ≤ nI (aN A) := nI_le (Nat.le_refl _) (by omega)
    simp (disch := first | assumption | decide | ((simp only [x1, x2, k1, n1]) <;> first | assumption | decide | (with_reducible apply ix_ok rfl <;> first | assumption | omega | decide) | (with_reducible apply ix_ok2 <;> first | assumption | omega | decide) | skip) | skip) only [fg_t, Option.bind_some, x1, x2, k1, n1, if_pos c1]
theorem cq_often (X : XO w x o A) (c : Int32) : F_X4_often x c w = some (qOften c A) := by
  obtain ⟨x1, x2, K⟩ := X
  obtain ⟨k1, k2, l1, k3, l2, k4, l3, r1, r2, r3, r4⟩ := K.s
  obtain ⟨n1, h8⟩ := K.n
  unfold F_X4_often qOften
  rw [c_isLetter, Option.bind_some]
  by_cases hc : isLet c = 0
  · rw [if_pos hc, if_pos hc]
  rw [if_neg hc, if_neg hc]
  refine fLoop_bind (r := cnt (fun t => aOftenT A c t) (aN A)) (fun k => (cnt (fun t => aOftenT A c t) k, nI k)) (aN A) rfl (fun t hk => ?_) ?_ rfl
  · have c1 : ¬ nI (aN A) ≤ nI t := nI_ge hk (by omega)
    have e1 := nI_clamp (n := t) (by omega)
    have T := K.T hk
    obtain ⟨q1, q2, q3, q4⟩ := T.w
    have e2 := c_countOf T.1.2.2.2.2.2.2 T.2.1.1 T.h6 c
    simp (disch := first | assumption | decide | ((simp only [x1, x2, k1, k2, l1, r1, n1, e1, q1, q2, q3]) <;> first | assumption | decide | (with_reducible apply ix_ok rfl <;> first | assumption | omega | decide) | (with_reducible apply ix_ok2 <;> first | assumption | omega | decide) | skip) | skip) only [fg_t, Option.bind_some, x1, x2, k1, k2, l1, r1, n1, e1, q1, q2, q3, if_neg c1, e2, nI_1, cnt_s]
    rfl
  · have c1 : nI (aN A) ≤ nI (aN A) := nI_le (Nat.le_refl _) (by omega)
    simp (disch := first | assumption | decide | ((simp only [x1, x2, k1, n1]) <;> first | assumption | decide | (with_reducible apply ix_ok rfl <;> first | assumption | omega | decide) | (with_reducible apply ix_ok2 <;> first | assumption | omega | decide) | skip) | skip) only [fg_t, Option.bind_some, x1, x2, k1, n1, if_pos c1]
theorem inn_02 (b : Int32) : (if b < 0 then (0 : Int32) else if b ≤ 2 then 1 else 0) = inn b 0 2 := by
  unfold inn
  by_cases h : b < 0
  · rw [if_pos h, if_pos h]
  · rw [if_neg h, if_neg h]
    by_cases h2 : b ≤ 2
    · rw [if_pos h2, if_neg (fun z => nle9 z h2)]
    · rw [if_neg h2, if_pos ?_]
      rw [Int32.le_iff_toInt_le] at h2
      rw [Int32.lt_iff_toInt_lt]
      omega
theorem cq_ranked (X : XO w x o A) (m p : Int32) : F_X4_ranked x m p w = some (qRanked m p A) := by
  obtain ⟨x1, x2, K⟩ := X
  obtain ⟨k1, k2, l1, k3, l2, k4, l3, r1, r2, r3, r4⟩ := K.s
  obtain ⟨n1, h8⟩ := K.n
  unfold F_X4_ranked qRanked
  have e9 := inn_02 m
  by_cases hc : inn m 0 2 = 0
  · rw [if_pos hc]
    by_cases c1 : m < 0
    · rw [if_pos c1]
    · rw [if_neg c1] at e9 ⊢
      by_cases c2 : m ≤ 2
      · rw [if_pos c2, hc] at e9
        exact absurd e9 (by decide)
      · rw [if_neg c2]
  rw [if_neg hc]
  have c1 : ¬ m < 0 := fun z => by
    rw [if_pos z] at e9
    exact hc e9.symm
  rw [if_neg c1] at e9 ⊢
  have c2 : m ≤ 2 := by
    by_cases z : m ≤ 2
    · exact z
    · rw [if_neg z] at e9
      exact absurd e9.symm hc
  rw [if_pos c2]
  refine fLoop_findb (fun k => nI k) (aN A) (fun t => aAhead A m t = p) (r := .inl ()) (q := fun t => .inr (.inl (nI t))) rfl (fun t hk hp => ?_) (fun t hk hp => ?_) ?_ ?_
  · have c1 : ¬ nI (aN A) ≤ nI t := nI_ge hk (by omega)
    simp (disch := first | assumption | decide | ((simp only [x1, x2, k1, k2, l1, r1, n1]) <;> first | assumption | decide | (with_reducible apply ix_ok rfl <;> first | assumption | omega | decide) | (with_reducible apply ix_ok2 <;> first | assumption | omega | decide) | skip) | skip) only [fg_t, Option.bind_some, x1, x2, k1, k2, l1, r1, n1, if_neg c1, c_ahead K m hk, if_neg hp, nI_1]
  · have c1 : ¬ nI (aN A) ≤ nI t := nI_ge hk (by omega)
    simp (disch := first | assumption | decide | ((simp only [x1, x2, k1, k2, l1, r1, n1]) <;> first | assumption | decide | (with_reducible apply ix_ok rfl <;> first | assumption | omega | decide) | (with_reducible apply ix_ok2 <;> first | assumption | omega | decide) | skip) | skip) only [fg_t, Option.bind_some, x1, x2, k1, k2, l1, r1, n1, if_neg c1, c_ahead K m hk, if_pos hp]
  · have c1 : nI (aN A) ≤ nI (aN A) := nI_le (Nat.le_refl _) (by omega)
    simp (disch := first | assumption | decide | ((simp only [x1, x2, k1, n1]) <;> first | assumption | decide | (with_reducible apply ix_ok rfl <;> first | assumption | omega | decide) | (with_reducible apply ix_ok2 <;> first | assumption | omega | decide) | skip) | skip) only [fg_t, Option.bind_some, x1, x2, k1, n1, if_pos c1]
  · cases (List.range (aN A)).find? (fun t => decide (aAhead A m t = p)) <;> rfl
theorem cq_isRight (X : XO w x o A) : F_X4_isRight x w = some (aOK A) := by
  obtain ⟨x1, x2, K⟩ := X
  obtain ⟨k1, k2, l1, k3, l2, k4, l3, r1, r2, r3, r4⟩ := K.s
  obtain ⟨n1, h8⟩ := K.n
  unfold F_X4_isRight aOK
  refine @fLoop_findb _ _ _ _ _ _ _ (fun k => nI k) (aN A) (fun t => ¬ okT A t) (fun t => Classical.propDecidable _) (Sum.inl ()) (fun _ => Sum.inr 0) rfl (fun t hk hp => ?_) (fun t hk hp => ?_) ?_ ?_
  · have c1 : ¬ nI (aN A) ≤ nI t := nI_ge hk (by omega)
    obtain ⟨d0, d1, hto⟩ := Classical.not_not.mp hp
    have e1 := nI_clamp (n := t) (by omega)
    have T := K.T hk
    have H0 := T.h0
    have H1 := T.h1
    obtain ⟨q1, q2, q3, q4⟩ := T.w
    have q5 := T.1.2.2.2.2.1
    have q6 := T.1.2.2.2.2.2.1
    have q7 := H0.1
    have q8 := H1.1
    simp (disch := first | assumption | decide | ((simp only [x1, x2, k1, k2, l1, r1, n1, e1, q1, q2, q3, q5, q6, q7, q8]) <;> first | assumption | decide | (with_reducible apply ix_ok rfl <;> first | assumption | omega | decide) | (with_reducible apply ix_ok2 <;> first | assumption | omega | decide) | skip) | skip) only [fg_t, Option.bind_some, x1, x2, k1, k2, l1, r1, n1, e1, q1, q2, q3, q5, q6, q7, q8, if_neg c1, c_sameByReading T, c_sameByHoles T, eq_self, if_true, c_isRightWhileDry H0, c_isRightWhileDry H1, if_neg d0, if_neg d1, T.2.1.2.2.2.2.1, H0.2.1.2.2.2.1, H1.2.1.2.2.2.1, nI_1]
    by_cases y : aT A t 10 = 0
    · rw [if_pos y, if_pos (hto y)]
    · rw [if_neg y]
  · have c1 : ¬ nI (aN A) ≤ nI t := nI_ge hk (by omega)
    have e1 := nI_clamp (n := t) (by omega)
    have T := K.T hk
    have H0 := T.h0
    have H1 := T.h1
    obtain ⟨q1, q2, q3, q4⟩ := T.w
    have q5 := T.1.2.2.2.2.1
    have q6 := T.1.2.2.2.2.2.1
    have q7 := H0.1
    have q8 := H1.1
    simp (disch := first | assumption | decide | ((simp only [x1, x2, k1, k2, l1, r1, n1, e1, q1, q2, q3, q5, q6, q7, q8]) <;> first | assumption | decide | (with_reducible apply ix_ok rfl <;> first | assumption | omega | decide) | (with_reducible apply ix_ok2 <;> first | assumption | omega | decide) | skip) | skip) only [fg_t, Option.bind_some, x1, x2, k1, k2, l1, r1, n1, e1, q1, q2, q3, q5, q6, q7, q8, if_neg c1, c_sameByReading T, c_sameByHoles T, eq_self, if_true, c_isRightWhileDry H0, c_isRightWhileDry H1, T.2.1.2.2.2.2.1, H0.2.1.2.2.2.1, H1.2.1.2.2.2.1, nI_1]
    by_cases d0 : aDry A t 0 = 0
    · rw [if_pos d0]
    rw [if_neg d0]
    by_cases d1 : aDry A t 1 = 0
    · rw [if_pos d1]
    rw [if_neg d1]
    by_cases y : aT A t 10 = 0
    · rw [if_pos y, if_neg (fun z => hp ⟨d0, d1, fun _ => z⟩)]
    · exact absurd ⟨d0, d1, fun z => absurd z y⟩ hp
  · have c1 : nI (aN A) ≤ nI (aN A) := nI_le (Nat.le_refl _) (by omega)
    simp (disch := first | assumption | decide | ((simp only [x1, x2, k1, n1]) <;> first | assumption | decide | (with_reducible apply ix_ok rfl <;> first | assumption | omega | decide) | (with_reducible apply ix_ok2 <;> first | assumption | omega | decide) | skip) | skip) only [fg_t, Option.bind_some, x1, x2, k1, n1, if_pos c1]
  · cases (List.range (aN A)).find? (fun t => @decide (¬ okT A t) (Classical.propDecidable _)) <;> rfl
theorem KO.dn (K : KO w o A) : nI (A 10).toNatClampNeg = A 10 ∧ (A 10).toNatClampNeg ≤ 6 := by
  obtain ⟨n, h1, h2, -⟩ := K.2.2.2.1
  rw [h2, nI_clamp (by omega)]
  exact ⟨rfl, h1⟩
theorem cq_account (X : XO w x o A) (b : Int32) : F_X4_account x b w = some (qAccount b (gI w 408 x 0) (gI w 405 x 0) A) := by
  obtain ⟨x1, x2, K⟩ := X
  obtain ⟨k1, k2, l1, k3, l2, k4, l3, r1, r2, r3, r4⟩ := K.s
  unfold F_X4_account qAccount
  by_cases b0 : b = 0
  · rw [if_pos b0, if_pos b0, fg_t x1, x2, fg_t k1, K.2.1.1]
  rw [if_neg b0, if_neg b0]
  by_cases b1 : b = 1
  · rw [if_pos b1, if_pos b1, fg_t x1, x2, fg_t k1, r2, fg_t K.1.2.2.2.2.2.2.2.2.2.2.2.1.1, K.2.1.2.2.2.2.2.2.2.2.1.1, K.dn.1]
  rw [if_neg b1, if_neg b1]
  by_cases b2 : b = 2
  · rw [if_pos b2, if_pos b2, fg_t x1, x2, fg_t k1, K.2.1.2.1]
  rw [if_neg b2, if_neg b2]
  by_cases b3 : b = 3
  · rw [if_pos b3, if_pos b3, fg_t x1, x2, fg_t k1, c_openPiers K, Option.bind_some]
  rw [if_neg b3, if_neg b3]
  by_cases b4 : b = 4
  · rw [if_pos b4, if_pos b4, fg_t x1, x2, fg_t k1, c_torn K, Option.bind_some]
  rw [if_neg b4, if_neg b4]
  by_cases b5 : b = 5
  · rw [if_pos b5, if_pos b5, fg_t x1, x2, fg_t k1, c_lost K, Option.bind_some]
  rw [if_neg b5, if_neg b5]
  by_cases b6 : b = 6
  · rw [if_pos b6, if_pos b6, fg_t x1, x2, fg_t k1, c_punched K, Option.bind_some]
  rw [if_neg b6, if_neg b6]
  by_cases b7 : b = 7
  · rw [if_pos b7, if_pos b7, fg_t x1, x2, fg_t k1, c_allLeft K, Option.bind_some]
    rfl
  rw [if_neg b7, if_neg b7]
  by_cases b8 : b = 8
  · rw [if_pos b8, if_pos b8, fg_t x1, x2, fg_t k1, K.2.1.2.2.1]
  rw [if_neg b8, if_neg b8]
  by_cases b9 : b = 9
  · rw [if_pos b9, if_pos b9, fg_t x1, x2, fg_t k1, K.2.1.2.2.2.1]
  rw [if_neg b9, if_neg b9]
  by_cases b10 : b = 10
  · rw [if_pos b10, if_pos b10, fg_t x1, x2, fg_t k1, K.2.1.2.2.2.2.1]
  rw [if_neg b10, if_neg b10]
  by_cases b11 : b = 11
  · rw [if_pos b11, if_pos b11, fg_t x1, x2, fg_t k1, K.2.1.2.2.2.2.2.1]
  rw [if_neg b11, if_neg b11]
  by_cases b12 : b = 12
  · rw [if_pos b12, if_pos b12, fg_t x1]
  rw [if_neg b12, if_neg b12]
  by_cases b13 : b = 13
  · rw [if_pos b13, if_pos b13, fg_t x1]
  rw [if_neg b13, if_neg b13]
theorem cnt_bd {f : Nat → Int32} {B : Nat} : ∀ n, (∀ k, k < n → ∃ c, c ≤ B ∧ f k = nI c) → ∃ s, s ≤ B * n ∧ cnt f n = nI s := by
  intro n
  induction n with
  | zero => intro _; exact ⟨0, by omega, rfl⟩
  | succ n ih =>
    intro h
    obtain ⟨s, h1, h2⟩ := ih (fun k hk => h k (by omega))
    obtain ⟨c, h3, h4⟩ := h n (by omega)
    exact ⟨s + c, by rw [Nat.mul_succ]; omega, by rw [cnt_s, h2, h4, nI_add]⟩
set_option maxRecDepth 4000 in
theorem fp_d : ∀ s, s < 145 → ∀ n, n < 9 → 0 < n → (FP.ddiv (FP.i2d (nI s)) (FP.i2d (2 * nI n))) &&& 0x7fffffffffffffff ≤ 0x7ff0000000000000 ∧ FP.dcmp (FP.ddiv (FP.i2d (nI s)) (FP.i2d (2 * nI n))) (FP.ddiv (FP.i2d (nI s)) (FP.i2d (2 * nI n))) = some .eq := by decide +kernel
set_option maxRecDepth 4000 in
theorem fp_f : ∀ r, r < 17 → ∀ p, p < 17 → 0 < p → (FP.fdiv (FP.i2f (nI r)) (FP.i2f (nI p))) &&& 0x7fffffff ≤ 0x7f800000 ∧ (FP.f2d (FP.fdiv (FP.i2f (nI r)) (FP.i2f (nI p)))) &&& 0x7fffffffffffffff ≤ 0x7ff0000000000000 ∧ FP.dcmp (FP.f2d (FP.fdiv (FP.i2f (nI r)) (FP.i2f (nI p)))) (FP.f2d (FP.fdiv (FP.i2f (nI r)) (FP.i2f (nI p)))) = some .eq := by decide +kernel
theorem wetMany_bd {A : Nat → Int32} (hA : WA A) : ∃ s, s < 145 ∧ aWetMany A = nI s := by
  obtain ⟨hn, h8, hT⟩ := hA.n
  obtain ⟨s, h1, h2⟩ := cnt_bd (f := fun t => aMeas A t 0) (B := 18) (aN A) (fun t ht => by
    obtain ⟨a, ha, e1⟩ := (hT t ht).g (h := 0) (by omega)
    obtain ⟨b, hb, e2⟩ := (hT t ht).g (h := 1) (by omega)
    refine ⟨a + b, by omega, ?_⟩
    show aMeas A t 0 = _
    unfold aMeas
    rw [if_pos rfl, e1, e2, nI_add])
  exact ⟨s, by omega, h2⟩
theorem readMany_bd {A : Nat → Int32} (hA : WA A) : ∃ s, s < 17 ∧ aReadMany A = nI s := by
  obtain ⟨hn, h8, hT⟩ := hA.n
  obtain ⟨s, h1, h2⟩ := cnt_bd (f := fun t => aIsRead A t 0 + aIsRead A t 1) (B := 2) (aN A) (fun t ht => by
    rcases read_01 A t 0 with e1 | e1 <;> rcases read_01 A t 1 with e2 | e2 <;> rw [e1, e2]
    · exact ⟨0, by omega, rfl⟩
    · exact ⟨1, by omega, rfl⟩
    · exact ⟨1, by omega, rfl⟩
    · exact ⟨2, by omega, rfl⟩)
  exact ⟨s, by omega, h2⟩
theorem punched_bd {A : Nat → Int32} (hA : WA A) : ∃ s, s < 17 ∧ aPunched A = nI s := by
  obtain ⟨hn, h8, hT⟩ := hA.n
  obtain ⟨s, h1, h2⟩ := cnt_bd (f := fun t => pun A t 0 + pun A t 1) (B := 2) (aN A) (fun t ht => by
    rcases pun_01 A t 0 with e1 | e1 <;> rcases pun_01 A t 1 with e2 | e2 <;> rw [e1, e2]
    · exact ⟨0, by omega, rfl⟩
    · exact ⟨1, by omega, rfl⟩
    · exact ⟨1, by omega, rfl⟩
    · exact ⟨2, by omega, rfl⟩)
  exact ⟨s, by omega, h2⟩
theorem meanWet_ok {A : Nat → Int32} (hA : WA A) (h0 : ¬ A 0 = 0) : (FP.ddiv (FP.i2d (aWetMany A)) (FP.i2d (2 * A 0))) &&& 0x7fffffffffffffff ≤ 0x7ff0000000000000 ∧ FP.dcmp (FP.ddiv (FP.i2d (aWetMany A)) (FP.i2d (2 * A 0))) (FP.ddiv (FP.i2d (aWetMany A)) (FP.i2d (2 * A 0))) = some .eq := by
  obtain ⟨s, hs, e⟩ := wetMany_bd hA
  obtain ⟨hn, h8, hT⟩ := hA.n
  rw [hn] at h0
  rw [e, hn]
  refine fp_d s hs (aN A) (by omega) ?_
  rw [nI_z0 (by omega)] at h0
  omega
theorem readShare_ok {A : Nat → Int32} (hA : WA A) (h0 : ¬ aPunched A = 0) : (FP.fdiv (FP.i2f (aReadMany A)) (FP.i2f (aPunched A))) &&& 0x7fffffff ≤ 0x7f800000 ∧ vf_n64 (FP.f2d (FP.fdiv (FP.i2f (aReadMany A)) (FP.i2f (aPunched A)))) ∧ FP.dcmp (FP.f2d (FP.fdiv (FP.i2f (aReadMany A)) (FP.i2f (aPunched A)))) (FP.f2d (FP.fdiv (FP.i2f (aReadMany A)) (FP.i2f (aPunched A)))) = some .eq := by
  obtain ⟨s, hs, e⟩ := readMany_bd hA
  obtain ⟨p, hp, e2⟩ := punched_bd hA
  rw [e2, nI_z0 (by omega)] at h0
  rw [e, e2]
  exact fp_f s hs p hp (by omega)
theorem cq_meanWet (X : XO w x o A) : F_X4_meanWet x w = some (qMeanWet A) := by
  obtain ⟨x1, x2, K⟩ := X
  obtain ⟨k1, k2, l1, k3, l2, k4, l3, r1, r2, r3, r4⟩ := K.s
  obtain ⟨n1, h8⟩ := K.n
  unfold F_X4_meanWet qMeanWet
  have e2 : (2 * A 0 = 0) = (A 0 = 0) := by
    rw [K.2.2.n.1, show (2 : Int32) = nI 2 from rfl, nI_mul, nI_z0 (by omega), nI_z0 (by omega)]
    exact propext (by omega)
  rw [fg_t x1, x2, fg_t k1, K.2.1.1]
  by_cases h0 : A 0 = 0
  · rw [if_pos (e2.symm ▸ h0), if_pos h0]
  rw [if_neg (fun z => h0 (e2 ▸ z)), if_neg h0]
  have hm := (meanWet_ok K.2.2 h0).1
  have n2 := K.2.1.1
  have n3 := K.2.2.n.1
  refine fLoop_bind (r := aWetMany A) (fun k => (cnt (fun t => aMeas A t 0) k, nI k)) (aN A) rfl (fun t hk => ?_) ?_ ?_
  · have c1 : ¬ nI (aN A) ≤ nI t := nI_ge hk (by omega)
    have e1 := nI_clamp (n := t) (by omega)
    have T := K.T hk
    have q1 := T.1.1
    simp (disch := first | assumption | decide | ((simp only [x2, k1, k2, l1, r1, n2, n3, e1, q1]) <;> first | assumption | decide | (with_reducible apply ix_ok rfl <;> first | assumption | omega | decide) | (with_reducible apply ix_ok2 <;> first | assumption | omega | decide) | skip) | skip) only [fg_t, Option.bind_some, x2, k1, k2, l1, r1, n2, n3, e1, q1, if_neg c1, c_wetness T, nI_1, cnt_s]
    rfl
  · have c1 : nI (aN A) ≤ nI (aN A) := nI_le (Nat.le_refl _) (by omega)
    rw [n3, if_pos c1]
    rfl
  · exact fg_t hm
theorem cq_readShare (X : XO w x o A) : F_X4_readShare x w = some (qReadShare A) := by
  obtain ⟨x1, x2, K⟩ := X
  unfold F_X4_readShare qReadShare
  rw [fg_t x1, x2, fg_t K.1.1, c_punched K, Option.bind_some]
  by_cases h0 : aPunched A = 0
  · rw [if_pos h0, if_pos h0]
  rw [if_neg h0, if_neg h0, c_right K, Option.bind_some]
  exact fg_t (readShare_ok K.2.2 h0).1
theorem cq_refusal (x1 : w.1 x = 5) (d : Int32) : F_X4_refusal x d w = some (qRefusal d (gI w 411 x 0) (gI w 412 x 0)) := by
  unfold F_X4_refusal qRefusal
  rw [fg_t x1]
  by_cases h0 : gI w 411 x 0 = 0
  · rw [if_pos h0, if_pos h0]
  rw [if_neg h0, if_neg h0, ite_some]
  refine congrArg some ?_
  split <;> rfl
end CQ2
