/-! read, class and reference together -/
theorem ref_same {w w' : FW} {x : Nat} (hB : MB w (x + 512)) (k : w'.1 = w.1) (l : w'.2.1 = w.2.1) (g : ∀ c a i, x + 512 ≤ a → gI w' c a i = gI w c a i) (r : ∀ c a i, x + 512 ≤ a → gR w' c a i = gR w c a i) : MB w' (x + 512) ∧ w' = mW w' (x + 512) (flW w (x + 512)) (arW w (x + 512)) := by
  have m1 : MB w' (x + 512) := by
    unfold MB
    rw [k, l, r _ _ _ (by omega), r _ _ _ (by omega), r _ _ _ (by omega), r _ _ _ (by omega), r _ _ _ (by omega), r _ _ _ (by omega), r _ _ _ (by omega), r _ _ _ (by omega)]
    exact hB
  have m2 : flW w' (x + 512) = flW w (x + 512) := by funext c; exact g _ _ _ (by omega)
  have m3 : arW w' (x + 512) = arW w (x + 512) := by funext k i; exact g _ _ _ (by omega)
  refine ⟨m1, ?_⟩
  rw [← m2, ← m3]
  exact (mW_me w' _).symm
theorem ch_ne : ∀ c, c < 127 → ¬ nI c = -1 := by decide +kernel
