/-! The class: what its words, halves and tickets answer -/
theorem sub1_le {n : Nat} (hn : n ≤ 60) {x : Int32} (h0 : ¬ x < 0) : (nI n - 1 < x) = (nI n ≤ x) := by
  obtain ⟨j, hj, rfl⟩ := nI_of h0
  cases n with
  | zero =>
    apply propext
    constructor
    · intro _
      exact nI_pos' hj
    · intro _
      rw [Int32.lt_iff_toInt_lt, nI_toInt hj, show (nI 0 - 1).toInt = -1 from by decide]
      omega
  | succ n =>
    rw [nI_pred, nI_ltI (by omega) hj, nI_leI (by omega) hj]
    apply propext
    omega
theorem inn_le {n : Nat} (hn : n ≤ 60) (x : Int32) : inn x 0 (nI n - 1) = if x < 0 then 0 else if nI n ≤ x then 0 else 1 := by
  unfold inn
  by_cases h0 : x < 0
  · rw [if_pos h0, if_pos h0]
  · rw [if_neg h0, if_neg h0]
    simp only [sub1_le hn h0]
theorem inn_t {n t : Nat} (hn : n ≤ 60) (ht : t < n) : inn (nI t) 0 (nI n - 1) = 1 := by
  rw [inn_le hn, if_neg (nI_pos (by omega)), if_neg (nI_ge ht (by omega))]
theorem ix_ok2 {n N : Nat} (h : n < N) (hN : N < 2 ^ 31) : ¬ (nI n < 0 ∨ N ≤ n) := fun z => z.elim (nI_pos (by omega)) (by omega)
theorem if_01 {α : Type} {a b : α} : (if (0 : Int32) = 0 then a else b) = a := rfl
theorem if_11 {α : Type} {a b : α} : (if (1 : Int32) = 0 then a else b) = b := rfl
theorem vow_c (c : Int32) : vow c = -1 ∨ ∃ v, v < 5 ∧ vow c = nI v := by
  unfold vow
  split
  · exact Or.inr ⟨0, by omega, rfl⟩
  · split
    · exact Or.inr ⟨1, by omega, rfl⟩
    · split
      · exact Or.inr ⟨2, by omega, rfl⟩
      · split
        · exact Or.inr ⟨3, by omega, rfl⟩
        · split
          · exact Or.inr ⟨4, by omega, rfl⟩
          · exact Or.inl rfl
theorem vow_l {c : Int32} {v : Nat} (h : vow c = nI v) (hv : v < 5) : c = vowFor (nI v) := by
  unfold vow at h
  rcases (show v = 0 ∨ v = 1 ∨ v = 2 ∨ v = 3 ∨ v = 4 by omega) with rfl | rfl | rfl | rfl | rfl <;> (split at h; · first | assumption | (exact absurd h (by decide))) <;> (split at h; · first | assumption | (exact absurd h (by decide))) <;> (split at h; · first | assumption | (exact absurd h (by decide))) <;> (split at h; · first | assumption | (exact absurd h (by decide))) <;> (split at h; · first | assumption | (exact absurd h (by decide))) <;> exact absurd h (by decide)
theorem inn_1 {x : Int32} {a b : Nat} (ha : a ≤ 1000) (hb : b ≤ 1000) (h : ¬ inn x (nI a) (nI b) = 0) : ∃ j, a ≤ j ∧ j ≤ b ∧ x = nI j := by
  rcases inn_cases x a (b := b) (by omega) (by omega) with ⟨j, h1, h2, h3, -⟩ | h9
  · exact ⟨j, h1, h2, h3⟩
  · exact absurd h9 h
theorem isLet_n {c : Int32} (h : isLet c = 1) : ∃ j, 97 ≤ j ∧ j < 123 ∧ c = nI j := by
  unfold isLet isCon at h
  by_cases c1 : c = 98
  · exact ⟨98, by omega, by omega, c1⟩
  · by_cases c2 : c = 100
    · exact ⟨100, by omega, by omega, c2⟩
    · by_cases c3 : inn c 107 110 = 0
      · by_cases c4 : inn c 114 116 = 0
        · rcases vow_c c with h5 | ⟨v, hv, h5⟩
          · rw [if_neg c1, if_neg c2, if_pos c3, if_pos c4, if_pos rfl, if_pos h5] at h
            exact absurd h (by decide)
          · have := vow_l h5 hv
            rcases (show v = 0 ∨ v = 1 ∨ v = 2 ∨ v = 3 ∨ v = 4 by omega) with rfl | rfl | rfl | rfl | rfl
            · exact ⟨97, by omega, by omega, this⟩
            · exact ⟨101, by omega, by omega, this⟩
            · exact ⟨105, by omega, by omega, this⟩
            · exact ⟨111, by omega, by omega, this⟩
            · exact ⟨117, by omega, by omega, this⟩
        · obtain ⟨j, h1, h2, h3⟩ := inn_1 (a := 114) (b := 116) (by omega) (by omega) c4
          exact ⟨j, by omega, by omega, h3⟩
      · obtain ⟨j, h1, h2, h3⟩ := inn_1 (a := 107) (b := 110) (by omega) (by omega) c3
        exact ⟨j, by omega, by omega, h3⟩
theorem fch_n : ∀ j, j < 256 → fch (nI j) = nI j := by decide +kernel
theorem isLet_fch {c : Int32} (h : isLet c = 1) : fch c = c := by
  obtain ⟨j, h1, h2, rfl⟩ := isLet_n h
  exact fch_n j (by omega)
theorem c_vowel (x : Int32) (w : FW) : F_X4_vowelNumber x w = some (vow x) := by
  unfold F_X4_vowelNumber vow
  simp only [ite_some]
theorem c_isLetter (x : Int32) (w : FW) : F_X4_isLetter x w = some (isLet x) := by
  unfold F_X4_isLetter
  simp only [c_vowel, Option.bind_some, ite_some]
  refine congrArg some ?_
  by_cases e98 : x = 98
  · subst e98; decide
  rw [if_neg e98]
  by_cases e99 : x = 99
  · subst e99; decide
  rw [if_neg e99]
  by_cases e100 : x = 100
  · subst e100; decide
  rw [if_neg e100]
  by_cases e101 : x = 101
  · subst e101; decide
  rw [if_neg e101]
  by_cases e102 : x = 102
  · subst e102; decide
  rw [if_neg e102]
  by_cases e103 : x = 103
  · subst e103; decide
  rw [if_neg e103]
  by_cases e104 : x = 104
  · subst e104; decide
  rw [if_neg e104]
  by_cases e105 : x = 105
  · subst e105; decide
  rw [if_neg e105]
  by_cases e106 : x = 106
  · subst e106; decide
  rw [if_neg e106]
  by_cases e107 : x = 107
  · subst e107; decide
  rw [if_neg e107]
  by_cases e108 : x = 108
  · subst e108; decide
  rw [if_neg e108]
  by_cases e109 : x = 109
  · subst e109; decide
  rw [if_neg e109]
  by_cases e110 : x = 110
  · subst e110; decide
  rw [if_neg e110]
  by_cases e111 : x = 111
  · subst e111; decide
  rw [if_neg e111]
  by_cases e112 : x = 112
  · subst e112; decide
  rw [if_neg e112]
  by_cases e113 : x = 113
  · subst e113; decide
  rw [if_neg e113]
  by_cases e114 : x = 114
  · subst e114; decide
  rw [if_neg e114]
  by_cases e115 : x = 115
  · subst e115; decide
  rw [if_neg e115]
  by_cases e116 : x = 116
  · subst e116; decide
  rw [if_neg e116]
  have h1 : inn x 107 110 = 0 := by
    rcases inn_cases x 107 (b := 110) (by omega) (by omega) with ⟨j, a1, a2, a3, -⟩ | h9
    · rcases (show j = 107 ∨ j = 108 ∨ j = 109 ∨ j = 110 by omega) with rfl | rfl | rfl | rfl
      · exact absurd a3 e107
      · exact absurd a3 e108
      · exact absurd a3 e109
      · exact absurd a3 e110
    · exact h9
  have h2 : inn x 114 116 = 0 := by
    rcases inn_cases x 114 (b := 116) (by omega) (by omega) with ⟨j, a1, a2, a3, -⟩ | h9
    · rcases (show j = 114 ∨ j = 115 ∨ j = 116 by omega) with rfl | rfl | rfl
      · exact absurd a3 e114
      · exact absurd a3 e115
      · exact absurd a3 e116
    · exact h9
  unfold isLet isCon
  rw [if_neg e98, if_neg e100, if_pos h1, if_pos h2, if_pos rfl]
theorem st_l0 {ρ σ : Type} {c : Prop} [Decidable c] (a y : Int32) (b : σ) : (if c then some (Sum.inl (a, b)) else some (Sum.inl (a + y, b))) = (some (Sum.inl (a + (if c then 0 else y), b)) : Option ((Int32 × σ) ⊕ ρ)) := by
  by_cases h : c
  · rw [if_pos h, if_pos h, Int32.add_zero]
  · rw [if_neg h, if_neg h]
theorem st_l1 {ρ σ : Type} {c : Prop} [Decidable c] (a x : Int32) (b : σ) : (if c then some (Sum.inl (a + x, b)) else some (Sum.inl (a, b))) = (some (Sum.inl (a + (if c then x else 0), b)) : Option ((Int32 × σ) ⊕ ρ)) := by
  by_cases h : c
  · rw [if_pos h, if_pos h]
  · rw [if_neg h, if_neg h, Int32.add_zero]
theorem st2_ite {ρ σ : Type} {c : Prop} [Decidable c] (a x y : Int32) (b : σ) : (if c then Sum.inl (a + x, b) else Sum.inl (a + y, b)) = (Sum.inl (a + (if c then x else y), b) : (Int32 × σ) ⊕ ρ) := by
  by_cases h : c
  · rw [if_pos h, if_pos h]
  · rw [if_neg h, if_neg h]
theorem st2_l0 {ρ σ : Type} {c : Prop} [Decidable c] (a y : Int32) (b : σ) : (if c then Sum.inl (a, b) else Sum.inl (a + y, b)) = (Sum.inl (a + (if c then 0 else y), b) : (Int32 × σ) ⊕ ρ) := by
  by_cases h : c
  · rw [if_pos h, if_pos h, Int32.add_zero]
  · rw [if_neg h, if_neg h]
theorem st2_l1 {ρ σ : Type} {c : Prop} [Decidable c] (a x : Int32) (b : σ) : (if c then Sum.inl (a + x, b) else Sum.inl (a, b)) = (Sum.inl (a + (if c then x else 0), b) : (Int32 × σ) ⊕ ρ) := by
  by_cases h : c
  · rw [if_pos h, if_pos h]
  · rw [if_neg h, if_neg h, Int32.add_zero]
theorem ite_addl {c : Prop} [Decidable c] (z p q : Int32) : (if c then z + p else z + q) = z + (if c then p else q) := by
  by_cases h : c
  · rw [if_pos h, if_pos h]
  · rw [if_neg h, if_neg h]
theorem j10 : ((1 : Int32) = 0) = False := eq_false (by decide)
theorem j01 : ((0 : Int32) = 1) = False := eq_false (by decide)
theorem add0 (a : Int32) : a + 0 = a := Int32.add_zero a
section CQ
variable {w : FW} {d n : Nat} {f : Nat → Int32}
theorem c_hasPlace (hs : WS w d) (hr : WR w d n f) (h6 : n ≤ 6) (x : Int32) : F_X3_hasPlace d x w = some (inn x 0 (nI n - 1)) := by
  obtain ⟨y1, y2, y3, y4, y5⟩ := hs
  have y6 := hr.1
  unfold F_X3_hasPlace
  rw [inn_le (by omega)]
  simp (disch := first | assumption | decide | ((simp only [y1, y6]) <;> first | assumption | decide | (with_reducible apply ix_ok rfl <;> first | assumption | omega | decide) | (with_reducible apply ix_ok2 <;> first | assumption | omega | decide) | skip) | skip) only [fg_t, Option.bind_some, y1, y6, ite_some]
theorem c_letterAt (hs : WS w d) (hr : WR w d n f) (h6 : n ≤ 6) {k : Nat} (hk : k < n) : F_X3_letterAt d (nI k) w = some (f k) := by
  obtain ⟨y1, y2, y3, y4, y5⟩ := id hs
  have y6 := hr.1
  unfold F_X3_letterAt
  have hk6 : k < 6 := by omega
  have e1 := nI_clamp (n := k) (by omega)
  have e2 : fch (gI w 600 (d + 1) k) = gI w 600 (d + 1) k := hs.2.2.2.2 k hk6
  simp (disch := first | assumption | decide | ((simp only [y1, y2, y3, y4, y6, e1]) <;> first | assumption | decide | (with_reducible apply ix_ok rfl <;> first | assumption | omega | decide) | (with_reducible apply ix_ok2 <;> first | assumption | omega | decide) | skip) | skip) only [fg_t, Option.bind_some, y1, y2, y3, y4, y6, e1, e2, c_hasPlace hs hr h6, inn_t (show n ≤ 60 by omega) hk, if_11, hr.2 k hk]
theorem c_letterNo (hs : WS w d) (hr : WR w d n f) (h6 : n ≤ 6) {x : Int32} (hx : inn x 0 (nI n - 1) = 0) : F_X3_letterAt d x w = some 63 := by
  obtain ⟨y1, y2, y3, y4, y5⟩ := id hs
  have y6 := hr.1
  unfold F_X3_letterAt
  simp (disch := first | assumption | decide | ((simp only [y1, y6]) <;> first | assumption | decide | (with_reducible apply ix_ok rfl <;> first | assumption | omega | decide) | (with_reducible apply ix_ok2 <;> first | assumption | omega | decide) | skip) | skip) only [fg_t, Option.bind_some, y1, y6, c_hasPlace hs hr h6, hx, eq_self, if_true]
theorem c_vowelCount (hs : WS w d) (hr : WR w d n f) (h6 : n ≤ 6) : F_X3_vowelCount d w = some (cnt (fun k => if vow (f k) = -1 then 0 else 1) n) := by
  obtain ⟨y1, y2, y3, y4, y5⟩ := id hs
  have y6 := hr.1
  unfold F_X3_vowelCount
  refine fLoop_bind (fun k => (cnt (fun k => if vow (f k) = -1 then 0 else 1) k, nI k)) (n) rfl (fun k hk => ?_) ?_ rfl
  · have c1 : ¬ nI (n) ≤ nI k := nI_ge hk (by omega)
    simp (disch := first | assumption | decide | ((simp only [y1, y6]) <;> first | assumption | decide | (with_reducible apply ix_ok rfl <;> first | assumption | omega | decide) | (with_reducible apply ix_ok2 <;> first | assumption | omega | decide) | skip) | skip) only [fg_t, Option.bind_some, y1, y6, c_letterAt hs hr h6 hk, c_vowel, add0, if_neg c1, nI_1, cnt_s, st_ite, st_l0, st_l1]
  · have c1 : nI (n) ≤ nI (n) := nI_le (Nat.le_refl _) (by omega)
    simp (disch := first | assumption | decide | ((simp only [y1, y6]) <;> first | assumption | decide | (with_reducible apply ix_ok rfl <;> first | assumption | omega | decide) | (with_reducible apply ix_ok2 <;> first | assumption | omega | decide) | skip) | skip) only [fg_t, Option.bind_some, y1, y6, if_pos c1]
theorem c_countOf (hs : WS w d) (hr : WR w d n f) (h6 : n ≤ 6) (x : Int32) : F_X3_countOf d x w = some (cnt (fun k => if f k = x then 1 else 0) n) := by
  obtain ⟨y1, y2, y3, y4, y5⟩ := id hs
  have y6 := hr.1
  unfold F_X3_countOf
  refine fLoop_bind (fun k => (cnt (fun k => if f k = x then 1 else 0) k, nI k)) (n) rfl (fun k hk => ?_) ?_ rfl
  · have c1 : ¬ nI (n) ≤ nI k := nI_ge hk (by omega)
    simp (disch := first | assumption | decide | ((simp only [y1, y6]) <;> first | assumption | decide | (with_reducible apply ix_ok rfl <;> first | assumption | omega | decide) | (with_reducible apply ix_ok2 <;> first | assumption | omega | decide) | skip) | skip) only [fg_t, Option.bind_some, y1, y6, c_letterAt hs hr h6 hk, if_neg c1, nI_1, cnt_s, st_ite, st_l0, st_l1]
  · have c1 : nI (n) ≤ nI (n) := nI_le (Nat.le_refl _) (by omega)
    simp (disch := first | assumption | decide | ((simp only [y1, y6]) <;> first | assumption | decide | (with_reducible apply ix_ok rfl <;> first | assumption | omega | decide) | (with_reducible apply ix_ok2 <;> first | assumption | omega | decide) | skip) | skip) only [fg_t, Option.bind_some, y1, y6, if_pos c1]
end CQ
