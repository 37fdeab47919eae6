/-! The reference's functions answer what is meant -/
section MQ
variable {w : FW} {M : Nat} {fl : Nat → Int32} {ar : Nat → Nat → Int32}
theorem m_thrown (hB : MB w M) : F_X5_thrown M (mW w M fl ar) = some (fl 500) := by
  obtain ⟨zk0, zk1, zk2, zk3, zk4, zk5, zk6, zk7, zk8, zl1, zl2, zl3, zl4, zl5, zl6, zl7, zl8, zr1, zr2, zr3, zr4, zr5, zr6, zr7, zr8⟩ := id hB
  unfold F_X5_thrown
  simp (disch := first | assumption | (simp only [mW_k, mW_l, mW_R, sI_k, sI_l, gR_I, mW_s1, mW_sf, mW_a1, zk1, zl1, zr1, *]) <;> first | decide | (apply ix_ok rfl <;> first | omega | decide) | skip) only [mW_k, mW_l, mW_R, gR_I, zr1, fg_t, mW_a1, mW_s1, mW_sf, mW_f, Option.bind_some, zk0]
theorem m_fails (hB : MB w M) (x : Int32) : F_X5_fails M x (mW w M fl ar) = some (0, mW w M (up fl 500 x) ar) := by
  obtain ⟨zk0, zk1, zk2, zk3, zk4, zk5, zk6, zk7, zk8, zl1, zl2, zl3, zl4, zl5, zl6, zl7, zl8, zr1, zr2, zr3, zr4, zr5, zr6, zr7, zr8⟩ := id hB
  unfold F_X5_fails
  simp (disch := first | assumption | (simp only [mW_k, mW_l, mW_R, sI_k, sI_l, gR_I, mW_s1, mW_sf, mW_a1, zk1, zl1, zr1, *]) <;> first | decide | (apply ix_ok rfl <;> first | omega | decide) | skip) only [mW_k, mW_l, mW_R, gR_I, zr1, fg_t, mW_a1, mW_s1, mW_sf, mW_f, Option.bind_some, zk0]
theorem m_refused (hB : MB w M) (x y : Int32) : F_X5_refused M x y (mW w M fl ar) = some (x, mW w M (up fl 517 y) ar) := by
  obtain ⟨zk0, zk1, zk2, zk3, zk4, zk5, zk6, zk7, zk8, zl1, zl2, zl3, zl4, zl5, zl6, zl7, zl8, zr1, zr2, zr3, zr4, zr5, zr6, zr7, zr8⟩ := id hB
  unfold F_X5_refused
  simp (disch := first | assumption | (simp only [mW_k, mW_l, mW_R, sI_k, sI_l, gR_I, mW_s1, mW_sf, mW_a1, zk1, zl1, zr1, *]) <;> first | decide | (apply ix_ok rfl <;> first | omega | decide) | skip) only [mW_k, mW_l, mW_R, gR_I, zr1, fg_t, mW_a1, mW_s1, mW_sf, mW_f, Option.bind_some, zk0]
theorem m_done (hB : MB w M) (x : Int32) : F_X5_done M x (mW w M fl ar) = some (0, mW w M (up fl 518 x) ar) := by
  obtain ⟨zk0, zk1, zk2, zk3, zk4, zk5, zk6, zk7, zk8, zl1, zl2, zl3, zl4, zl5, zl6, zl7, zl8, zr1, zr2, zr3, zr4, zr5, zr6, zr7, zr8⟩ := id hB
  unfold F_X5_done
  simp (disch := first | assumption | (simp only [mW_k, mW_l, mW_R, sI_k, sI_l, gR_I, mW_s1, mW_sf, mW_a1, zk1, zl1, zr1, *]) <;> first | decide | (apply ix_ok rfl <;> first | omega | decide) | skip) only [mW_k, mW_l, mW_R, gR_I, zr1, fg_t, mW_a1, mW_s1, mW_sf, mW_f, Option.bind_some, zk0]
theorem m_in (x a b : Int32) (w : FW) : F_X5_in x a b w = some (inn x a b) := by
  unfold F_X5_in inn
  by_cases h : x < a
  · rw [if_pos h, if_pos h]
  · rw [if_neg h, if_neg h]
    by_cases h2 : b < x
    · rw [if_pos h2, if_pos h2]
    · rw [if_neg h2, if_neg h2]
theorem m_vowel (x : Int32) (w : FW) : F_X5_vowel x w = some (vow x) := by
  unfold F_X5_vowel vow
  by_cases h1 : x = 97
  · rw [if_pos h1, if_pos h1]
  · by_cases h2 : x = 101
    · rw [if_neg h1, if_neg h1, if_pos h2, if_pos h2]
    · by_cases h3 : x = 105
      · rw [if_neg h1, if_neg h1, if_neg h2, if_neg h2, if_pos h3, if_pos h3]
      · by_cases h4 : x = 111
        · rw [if_neg h1, if_neg h1, if_neg h2, if_neg h2, if_neg h3, if_neg h3, if_pos h4, if_pos h4]
        · by_cases h5 : x = 117
          · rw [if_neg h1, if_neg h1, if_neg h2, if_neg h2, if_neg h3, if_neg h3, if_neg h4, if_neg h4, if_pos h5, if_pos h5]
          · rw [if_neg h1, if_neg h1, if_neg h2, if_neg h2, if_neg h3, if_neg h3, if_neg h4, if_neg h4, if_neg h5, if_neg h5]
theorem ite_some {α : Type} {c : Prop} [Decidable c] (a b : α) : (if c then some a else some b) = some (if c then a else b) := by
  by_cases h : c
  · rw [if_pos h, if_pos h]
  · rw [if_neg h, if_neg h]
theorem m_isConsonant (x : Int32) (w : FW) : F_X5_isConsonant x w = some (isCon x) := by
  unfold F_X5_isConsonant isCon
  simp only [m_in, Option.bind_some, ite_some]
theorem m_isLetter (x : Int32) (w : FW) : F_X5_isLetter x w = some (isLet x) := by
  unfold F_X5_isLetter isLet
  simp only [m_isConsonant, m_vowel, Option.bind_some, ite_some]
theorem m_mod5 (x : Int32) (w : FW) : F_X5_mod5 x w = some (m5 x) := rfl
theorem m_vowelFor (x : Int32) (w : FW) : F_X5_vowelFor x w = some (vowFor x) := by
  unfold F_X5_vowelFor vowFor
  simp only [ite_some]
theorem m_number (x : Int32) (w : FW) : F_X5_number x w = some (zz x) := by
  unfold F_X5_number zz
  simp only [ite_some]
theorem m_of (hB : MB w M) {x1 x2 : Int32} {j : Nat} (h1 : 17 + 20 * x1 + x2 = nI j) (hj : j < 177) : F_X5_of M x1 x2 (mW w M fl ar) = some (ar 1 j) := by
  obtain ⟨zk0, zk1, zk2, zk3, zk4, zk5, zk6, zk7, zk8, zl1, zl2, zl3, zl4, zl5, zl6, zl7, zl8, zr1, zr2, zr3, zr4, zr5, zr6, zr7, zr8⟩ := id hB
  unfold F_X5_of
  simp (disch := first | assumption | (simp only [mW_k, mW_l, mW_R, sI_k, sI_l, gR_I, mW_s1, mW_sf, mW_a1, zk1, zl1, zr1, *]) <;> first | decide | (apply ix_ok rfl <;> first | omega | decide) | skip) only [mW_k, mW_l, mW_R, gR_I, zr1, fg_t, mW_a1, mW_s1, mW_sf, mW_f, Option.bind_some, zk0, h1, nI_clamp (show j < 2 ^ 31 by omega)]
theorem m_sets (hB : MB w M) {x1 x2 : Int32} {j : Nat} (v : Int32) (h1 : 17 + 20 * x1 + x2 = nI j) (hj : j < 177) : F_X5_sets M x1 x2 v (mW w M fl ar) = some (mW w M fl (up ar 1 (up (ar 1) j v))) := by
  obtain ⟨zk0, zk1, zk2, zk3, zk4, zk5, zk6, zk7, zk8, zl1, zl2, zl3, zl4, zl5, zl6, zl7, zl8, zr1, zr2, zr3, zr4, zr5, zr6, zr7, zr8⟩ := id hB
  unfold F_X5_sets
  simp (disch := first | assumption | (simp only [mW_k, mW_l, mW_R, sI_k, sI_l, gR_I, mW_s1, mW_sf, mW_a1, zk1, zl1, zr1, *]) <;> first | decide | (apply ix_ok rfl <;> first | omega | decide) | skip) only [mW_k, mW_l, mW_R, gR_I, zr1, fg_t, mW_a1, mW_s1, mW_sf, mW_f, Option.bind_some, zk0, h1, nI_clamp (show j < 2 ^ 31 by omega)]
theorem m_of0 (hB : MB w M) {t : Nat} (ht : t < 8) : F_X5_of M (nI t) 0 (mW w M fl ar) = some (aT (ar 1) t 0) := m_of hB (ixe t 0) (by omega)
theorem m_sets0 (hB : MB w M) {t : Nat} (ht : t < 8) (v : Int32) : F_X5_sets M (nI t) 0 v (mW w M fl ar) = some (mW w M fl (up ar 1 (up (ar 1) (17 + 20 * t + 0) v))) := m_sets hB v (ixe t 0) (by omega)
theorem m_of7 (hB : MB w M) {t : Nat} (ht : t < 8) : F_X5_of M (nI t) 7 (mW w M fl ar) = some (aT (ar 1) t 7) := m_of hB (ixe t 7) (by omega)
theorem m_sets7 (hB : MB w M) {t : Nat} (ht : t < 8) (v : Int32) : F_X5_sets M (nI t) 7 v (mW w M fl ar) = some (mW w M fl (up ar 1 (up (ar 1) (17 + 20 * t + 7) v))) := m_sets hB v (ixe t 7) (by omega)
theorem m_of8 (hB : MB w M) {t : Nat} (ht : t < 8) : F_X5_of M (nI t) 8 (mW w M fl ar) = some (aT (ar 1) t 8) := m_of hB (ixe t 8) (by omega)
theorem m_sets8 (hB : MB w M) {t : Nat} (ht : t < 8) (v : Int32) : F_X5_sets M (nI t) 8 v (mW w M fl ar) = some (mW w M fl (up ar 1 (up (ar 1) (17 + 20 * t + 8) v))) := m_sets hB v (ixe t 8) (by omega)
theorem m_of9 (hB : MB w M) {t : Nat} (ht : t < 8) : F_X5_of M (nI t) 9 (mW w M fl ar) = some (aT (ar 1) t 9) := m_of hB (ixe t 9) (by omega)
theorem m_sets9 (hB : MB w M) {t : Nat} (ht : t < 8) (v : Int32) : F_X5_sets M (nI t) 9 v (mW w M fl ar) = some (mW w M fl (up ar 1 (up (ar 1) (17 + 20 * t + 9) v))) := m_sets hB v (ixe t 9) (by omega)
theorem m_of10 (hB : MB w M) {t : Nat} (ht : t < 8) : F_X5_of M (nI t) 10 (mW w M fl ar) = some (aT (ar 1) t 10) := m_of hB (ixe t 10) (by omega)
theorem m_sets10 (hB : MB w M) {t : Nat} (ht : t < 8) (v : Int32) : F_X5_sets M (nI t) 10 v (mW w M fl ar) = some (mW w M fl (up ar 1 (up (ar 1) (17 + 20 * t + 10) v))) := m_sets hB v (ixe t 10) (by omega)
theorem m_of11 (hB : MB w M) {t : Nat} (ht : t < 8) : F_X5_of M (nI t) 11 (mW w M fl ar) = some (aT (ar 1) t 11) := m_of hB (ixe t 11) (by omega)
theorem m_sets11 (hB : MB w M) {t : Nat} (ht : t < 8) (v : Int32) : F_X5_sets M (nI t) 11 v (mW w M fl ar) = some (mW w M fl (up ar 1 (up (ar 1) (17 + 20 * t + 11) v))) := m_sets hB v (ixe t 11) (by omega)
theorem m_letterOf (hB : MB w M) {t k : Nat} (ht : t < 8) (hk : k < 6) : F_X5_letterOf M (nI t) (nI k) (mW w M fl ar) = some (aL (ar 1) t k) := by
  obtain ⟨zk0, zk1, zk2, zk3, zk4, zk5, zk6, zk7, zk8, zl1, zl2, zl3, zl4, zl5, zl6, zl7, zl8, zr1, zr2, zr3, zr4, zr5, zr6, zr7, zr8⟩ := id hB
  unfold F_X5_letterOf
  simp (disch := first | assumption | (simp only [mW_k, mW_l, mW_R, sI_k, sI_l, gR_I, mW_s1, mW_sf, mW_a1, zk1, zl1, zr1, *]) <;> first | decide | (apply ix_ok rfl <;> first | omega | decide) | skip) only [mW_k, mW_l, mW_R, gR_I, zr1, fg_t, mW_a1, mW_s1, mW_sf, mW_f, Option.bind_some, zk0, m_of hB (ixl t k) (show 17 + 20 * t + (1 + k) < 177 by omega), aL]
theorem m_half0 (hB : MB w M) {t h : Nat} (ht : t < 8) (hh : h < 2) : F_X5_half M (nI t) (nI h) 0 (mW w M fl ar) = some (aH (ar 1) t h 0) := by
  obtain ⟨zk0, zk1, zk2, zk3, zk4, zk5, zk6, zk7, zk8, zl1, zl2, zl3, zl4, zl5, zl6, zl7, zl8, zr1, zr2, zr3, zr4, zr5, zr6, zr7, zr8⟩ := id hB
  unfold F_X5_half
  simp (disch := first | assumption | (simp only [mW_k, mW_l, mW_R, sI_k, sI_l, gR_I, mW_s1, mW_sf, mW_a1, zk1, zl1, zr1, *]) <;> first | decide | (apply ix_ok rfl <;> first | omega | decide) | skip) only [mW_k, mW_l, mW_R, gR_I, zr1, fg_t, mW_a1, mW_s1, mW_sf, mW_f, Option.bind_some, zk0, m_of hB (x1 := nI t) (x2 := 12 + 4 * nI h + 0) (ixh t h 0) (show 17 + 20 * t + (12 + 4 * h + 0) < 177 by omega), aH]
theorem m_setsHalf0 (hB : MB w M) {t h : Nat} (ht : t < 8) (hh : h < 2) (v : Int32) : F_X5_setsHalf M (nI t) (nI h) 0 v (mW w M fl ar) = some (mW w M fl (up ar 1 (up (ar 1) (17 + 20 * t + (12 + 4 * h + 0)) v))) := by
  obtain ⟨zk0, zk1, zk2, zk3, zk4, zk5, zk6, zk7, zk8, zl1, zl2, zl3, zl4, zl5, zl6, zl7, zl8, zr1, zr2, zr3, zr4, zr5, zr6, zr7, zr8⟩ := id hB
  unfold F_X5_setsHalf
  simp (disch := first | assumption | (simp only [mW_k, mW_l, mW_R, sI_k, sI_l, gR_I, mW_s1, mW_sf, mW_a1, zk1, zl1, zr1, *]) <;> first | decide | (apply ix_ok rfl <;> first | omega | decide) | skip) only [mW_k, mW_l, mW_R, gR_I, zr1, fg_t, mW_a1, mW_s1, mW_sf, mW_f, Option.bind_some, zk0, m_sets hB (x1 := nI t) (x2 := 12 + 4 * nI h + 0) v (ixh t h 0) (show 17 + 20 * t + (12 + 4 * h + 0) < 177 by omega)]
theorem m_half00 (hB : MB w M) {t : Nat} (ht : t < 8) : F_X5_half M (nI t) 0 0 (mW w M fl ar) = some (aH (ar 1) t 0 0) := m_half0 hB (h := 0) ht (by decide)
theorem m_half10 (hB : MB w M) {t : Nat} (ht : t < 8) : F_X5_half M (nI t) 1 0 (mW w M fl ar) = some (aH (ar 1) t 1 0) := m_half0 hB (h := 1) ht (by decide)
theorem m_half1 (hB : MB w M) {t h : Nat} (ht : t < 8) (hh : h < 2) : F_X5_half M (nI t) (nI h) 1 (mW w M fl ar) = some (aH (ar 1) t h 1) := by
  obtain ⟨zk0, zk1, zk2, zk3, zk4, zk5, zk6, zk7, zk8, zl1, zl2, zl3, zl4, zl5, zl6, zl7, zl8, zr1, zr2, zr3, zr4, zr5, zr6, zr7, zr8⟩ := id hB
  unfold F_X5_half
  simp (disch := first | assumption | (simp only [mW_k, mW_l, mW_R, sI_k, sI_l, gR_I, mW_s1, mW_sf, mW_a1, zk1, zl1, zr1, *]) <;> first | decide | (apply ix_ok rfl <;> first | omega | decide) | skip) only [mW_k, mW_l, mW_R, gR_I, zr1, fg_t, mW_a1, mW_s1, mW_sf, mW_f, Option.bind_some, zk0, m_of hB (x1 := nI t) (x2 := 12 + 4 * nI h + 1) (ixh t h 1) (show 17 + 20 * t + (12 + 4 * h + 1) < 177 by omega), aH]
theorem m_setsHalf1 (hB : MB w M) {t h : Nat} (ht : t < 8) (hh : h < 2) (v : Int32) : F_X5_setsHalf M (nI t) (nI h) 1 v (mW w M fl ar) = some (mW w M fl (up ar 1 (up (ar 1) (17 + 20 * t + (12 + 4 * h + 1)) v))) := by
  obtain ⟨zk0, zk1, zk2, zk3, zk4, zk5, zk6, zk7, zk8, zl1, zl2, zl3, zl4, zl5, zl6, zl7, zl8, zr1, zr2, zr3, zr4, zr5, zr6, zr7, zr8⟩ := id hB
  unfold F_X5_setsHalf
  simp (disch := first | assumption | (simp only [mW_k, mW_l, mW_R, sI_k, sI_l, gR_I, mW_s1, mW_sf, mW_a1, zk1, zl1, zr1, *]) <;> first | decide | (apply ix_ok rfl <;> first | omega | decide) | skip) only [mW_k, mW_l, mW_R, gR_I, zr1, fg_t, mW_a1, mW_s1, mW_sf, mW_f, Option.bind_some, zk0, m_sets hB (x1 := nI t) (x2 := 12 + 4 * nI h + 1) v (ixh t h 1) (show 17 + 20 * t + (12 + 4 * h + 1) < 177 by omega)]
theorem m_half01 (hB : MB w M) {t : Nat} (ht : t < 8) : F_X5_half M (nI t) 0 1 (mW w M fl ar) = some (aH (ar 1) t 0 1) := m_half1 hB (h := 0) ht (by decide)
theorem m_half11 (hB : MB w M) {t : Nat} (ht : t < 8) : F_X5_half M (nI t) 1 1 (mW w M fl ar) = some (aH (ar 1) t 1 1) := m_half1 hB (h := 1) ht (by decide)
theorem m_half2 (hB : MB w M) {t h : Nat} (ht : t < 8) (hh : h < 2) : F_X5_half M (nI t) (nI h) 2 (mW w M fl ar) = some (aH (ar 1) t h 2) := by
  obtain ⟨zk0, zk1, zk2, zk3, zk4, zk5, zk6, zk7, zk8, zl1, zl2, zl3, zl4, zl5, zl6, zl7, zl8, zr1, zr2, zr3, zr4, zr5, zr6, zr7, zr8⟩ := id hB
  unfold F_X5_half
  simp (disch := first | assumption | (simp only [mW_k, mW_l, mW_R, sI_k, sI_l, gR_I, mW_s1, mW_sf, mW_a1, zk1, zl1, zr1, *]) <;> first | decide | (apply ix_ok rfl <;> first | omega | decide) | skip) only [mW_k, mW_l, mW_R, gR_I, zr1, fg_t, mW_a1, mW_s1, mW_sf, mW_f, Option.bind_some, zk0, m_of hB (x1 := nI t) (x2 := 12 + 4 * nI h + 2) (ixh t h 2) (show 17 + 20 * t + (12 + 4 * h + 2) < 177 by omega), aH]
theorem m_setsHalf2 (hB : MB w M) {t h : Nat} (ht : t < 8) (hh : h < 2) (v : Int32) : F_X5_setsHalf M (nI t) (nI h) 2 v (mW w M fl ar) = some (mW w M fl (up ar 1 (up (ar 1) (17 + 20 * t + (12 + 4 * h + 2)) v))) := by
  obtain ⟨zk0, zk1, zk2, zk3, zk4, zk5, zk6, zk7, zk8, zl1, zl2, zl3, zl4, zl5, zl6, zl7, zl8, zr1, zr2, zr3, zr4, zr5, zr6, zr7, zr8⟩ := id hB
  unfold F_X5_setsHalf
  simp (disch := first | assumption | (simp only [mW_k, mW_l, mW_R, sI_k, sI_l, gR_I, mW_s1, mW_sf, mW_a1, zk1, zl1, zr1, *]) <;> first | decide | (apply ix_ok rfl <;> first | omega | decide) | skip) only [mW_k, mW_l, mW_R, gR_I, zr1, fg_t, mW_a1, mW_s1, mW_sf, mW_f, Option.bind_some, zk0, m_sets hB (x1 := nI t) (x2 := 12 + 4 * nI h + 2) v (ixh t h 2) (show 17 + 20 * t + (12 + 4 * h + 2) < 177 by omega)]
theorem m_half02 (hB : MB w M) {t : Nat} (ht : t < 8) : F_X5_half M (nI t) 0 2 (mW w M fl ar) = some (aH (ar 1) t 0 2) := m_half2 hB (h := 0) ht (by decide)
theorem m_half12 (hB : MB w M) {t : Nat} (ht : t < 8) : F_X5_half M (nI t) 1 2 (mW w M fl ar) = some (aH (ar 1) t 1 2) := m_half2 hB (h := 1) ht (by decide)
theorem m_half3 (hB : MB w M) {t h : Nat} (ht : t < 8) (hh : h < 2) : F_X5_half M (nI t) (nI h) 3 (mW w M fl ar) = some (aH (ar 1) t h 3) := by
  obtain ⟨zk0, zk1, zk2, zk3, zk4, zk5, zk6, zk7, zk8, zl1, zl2, zl3, zl4, zl5, zl6, zl7, zl8, zr1, zr2, zr3, zr4, zr5, zr6, zr7, zr8⟩ := id hB
  unfold F_X5_half
  simp (disch := first | assumption | (simp only [mW_k, mW_l, mW_R, sI_k, sI_l, gR_I, mW_s1, mW_sf, mW_a1, zk1, zl1, zr1, *]) <;> first | decide | (apply ix_ok rfl <;> first | omega | decide) | skip) only [mW_k, mW_l, mW_R, gR_I, zr1, fg_t, mW_a1, mW_s1, mW_sf, mW_f, Option.bind_some, zk0, m_of hB (x1 := nI t) (x2 := 12 + 4 * nI h + 3) (ixh t h 3) (show 17 + 20 * t + (12 + 4 * h + 3) < 177 by omega), aH]
theorem m_setsHalf3 (hB : MB w M) {t h : Nat} (ht : t < 8) (hh : h < 2) (v : Int32) : F_X5_setsHalf M (nI t) (nI h) 3 v (mW w M fl ar) = some (mW w M fl (up ar 1 (up (ar 1) (17 + 20 * t + (12 + 4 * h + 3)) v))) := by
  obtain ⟨zk0, zk1, zk2, zk3, zk4, zk5, zk6, zk7, zk8, zl1, zl2, zl3, zl4, zl5, zl6, zl7, zl8, zr1, zr2, zr3, zr4, zr5, zr6, zr7, zr8⟩ := id hB
  unfold F_X5_setsHalf
  simp (disch := first | assumption | (simp only [mW_k, mW_l, mW_R, sI_k, sI_l, gR_I, mW_s1, mW_sf, mW_a1, zk1, zl1, zr1, *]) <;> first | decide | (apply ix_ok rfl <;> first | omega | decide) | skip) only [mW_k, mW_l, mW_R, gR_I, zr1, fg_t, mW_a1, mW_s1, mW_sf, mW_f, Option.bind_some, zk0, m_sets hB (x1 := nI t) (x2 := 12 + 4 * nI h + 3) v (ixh t h 3) (show 17 + 20 * t + (12 + 4 * h + 3) < 177 by omega)]
theorem m_half03 (hB : MB w M) {t : Nat} (ht : t < 8) : F_X5_half M (nI t) 0 3 (mW w M fl ar) = some (aH (ar 1) t 0 3) := m_half3 hB (h := 0) ht (by decide)
theorem m_half13 (hB : MB w M) {t : Nat} (ht : t < 8) : F_X5_half M (nI t) 1 3 (mW w M fl ar) = some (aH (ar 1) t 1 3) := m_half3 hB (h := 1) ht (by decide)
theorem m_isPunched (hB : MB w M) {t h : Nat} (ht : t < 8) (hh : h < 2) : F_X5_isPunched M (nI t) (nI h) (mW w M fl ar) = some (pun (ar 1) t h) := by
  obtain ⟨zk0, zk1, zk2, zk3, zk4, zk5, zk6, zk7, zk8, zl1, zl2, zl3, zl4, zl5, zl6, zl7, zl8, zr1, zr2, zr3, zr4, zr5, zr6, zr7, zr8⟩ := id hB
  unfold F_X5_isPunched pun
  simp (disch := first | assumption | (simp only [mW_k, mW_l, mW_R, sI_k, sI_l, gR_I, mW_s1, mW_sf, mW_a1, zk1, zl1, zr1, *]) <;> first | decide | (apply ix_ok rfl <;> first | omega | decide) | skip) only [mW_k, mW_l, mW_R, gR_I, zr1, fg_t, mW_a1, mW_s1, mW_sf, mW_f, Option.bind_some, zk0, m_half0 hB ht hh, ite_some]
theorem m_isPunched0 (hB : MB w M) {t : Nat} (ht : t < 8) : F_X5_isPunched M (nI t) 0 (mW w M fl ar) = some (pun (ar 1) t 0) := m_isPunched hB (h := 0) ht (by decide)
theorem m_isPunched1 (hB : MB w M) {t : Nat} (ht : t < 8) : F_X5_isPunched M (nI t) 1 (mW w M fl ar) = some (pun (ar 1) t 1) := m_isPunched hB (h := 1) ht (by decide)
theorem pun_0 {A : Nat → Int32} {t h : Nat} : pun A t h = 0 ↔ aH A t h 0 = -1 := by
  unfold pun
  by_cases c : aH A t h 0 = -1
  · rw [if_pos c]; exact ⟨fun _ => c, fun _ => rfl⟩
  · rw [if_neg c]; exact ⟨fun z => absurd z (by decide), fun z => absurd z c⟩
theorem m_holesAt (hB : MB w M) {t h k : Nat} (ht : t < 8) (hh : h < 2) (hk : k < 6) : F_X5_holesAt M (nI t) (nI h) (nI k) (mW w M fl ar) = some (aHoles (ar 1) t h k) := by
  obtain ⟨zk0, zk1, zk2, zk3, zk4, zk5, zk6, zk7, zk8, zl1, zl2, zl3, zl4, zl5, zl6, zl7, zl8, zr1, zr2, zr3, zr4, zr5, zr6, zr7, zr8⟩ := id hB
  unfold F_X5_holesAt aHoles
  simp (disch := first | assumption | (simp only [mW_k, mW_l, mW_R, sI_k, sI_l, gR_I, mW_s1, mW_sf, mW_a1, zk1, zl1, zr1, *]) <;> first | decide | (apply ix_ok rfl <;> first | omega | decide) | skip) only [mW_k, mW_l, mW_R, gR_I, zr1, fg_t, mW_a1, mW_s1, mW_sf, mW_f, Option.bind_some, zk0, m_letterOf hB ht hk, m_vowel, m_isPunched hB ht hh, m_half0 hB ht hh, m_mod5, ite_some, pun_0]
theorem m_leftAt (hB : MB w M) {t h k : Nat} (ht : t < 8) (hh : h < 2) (hk : k < 6) (g : Int32) : F_X5_leftAt M (nI t) (nI h) (nI k) g (mW w M fl ar) = some (aLeft (ar 1) t h k g) := by
  obtain ⟨zk0, zk1, zk2, zk3, zk4, zk5, zk6, zk7, zk8, zl1, zl2, zl3, zl4, zl5, zl6, zl7, zl8, zr1, zr2, zr3, zr4, zr5, zr6, zr7, zr8⟩ := id hB
  unfold F_X5_leftAt aLeft
  simp (disch := first | assumption | (simp only [mW_k, mW_l, mW_R, sI_k, sI_l, gR_I, mW_s1, mW_sf, mW_a1, zk1, zl1, zr1, *]) <;> first | decide | (apply ix_ok rfl <;> first | omega | decide) | skip) only [mW_k, mW_l, mW_R, gR_I, zr1, fg_t, mW_a1, mW_s1, mW_sf, mW_f, Option.bind_some, zk0, m_holesAt hB ht hh hk, ite_some]
theorem m_readWith (hB : MB w M) {t h k : Nat} (ht : t < 8) (hh : h < 2) (hk : k < 6) (g m : Int32) : F_X5_readWith M (nI t) (nI h) (nI k) g m (mW w M fl ar) = some (aRead (ar 1) t h k g m) := by
  obtain ⟨zk0, zk1, zk2, zk3, zk4, zk5, zk6, zk7, zk8, zl1, zl2, zl3, zl4, zl5, zl6, zl7, zl8, zr1, zr2, zr3, zr4, zr5, zr6, zr7, zr8⟩ := id hB
  unfold F_X5_readWith aRead
  simp (disch := first | assumption | (simp only [mW_k, mW_l, mW_R, sI_k, sI_l, gR_I, mW_s1, mW_sf, mW_a1, zk1, zl1, zr1, *]) <;> first | decide | (apply ix_ok rfl <;> first | omega | decide) | skip) only [mW_k, mW_l, mW_R, gR_I, zr1, fg_t, mW_a1, mW_s1, mW_sf, mW_f, Option.bind_some, zk0, m_letterOf hB ht hk, m_vowel, m_leftAt hB ht hh hk, m_mod5, m_vowelFor, ite_some]
theorem m_reads (hB : MB w M) {t h k : Nat} (ht : t < 8) (hh : h < 2) (hk : k < 6) : F_X5_reads M (nI t) (nI h) (nI k) (mW w M fl ar) = some (aReads (ar 1) t h k) := by
  obtain ⟨zk0, zk1, zk2, zk3, zk4, zk5, zk6, zk7, zk8, zl1, zl2, zl3, zl4, zl5, zl6, zl7, zl8, zr1, zr2, zr3, zr4, zr5, zr6, zr7, zr8⟩ := id hB
  unfold F_X5_reads aReads
  simp (disch := first | assumption | (simp only [mW_k, mW_l, mW_R, sI_k, sI_l, gR_I, mW_s1, mW_sf, mW_a1, zk1, zl1, zr1, *]) <;> first | decide | (apply ix_ok rfl <;> first | omega | decide) | skip) only [mW_k, mW_l, mW_R, gR_I, zr1, fg_t, mW_a1, mW_s1, mW_sf, mW_f, Option.bind_some, zk0, m_half0 hB ht hh, m_half1 hB ht hh, m_readWith hB ht hh hk]
end MQ
