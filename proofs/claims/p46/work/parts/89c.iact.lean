/-! The invariant through the orders of a text -/
theorem iv_act {f A T : Nat → Int32} {L p q i b : Nat} (hI : IV b A) (hA : WA A) (ho : OG f L p q T i) (h0 : (sAct f p q A).1 = 0) : IV (b + 1) (sAct f p q A).2.2 := by
  rcases ho with ⟨h, -, hq9⟩ | ⟨h, -, -, hq9⟩ | ⟨h, -, -, -, hq9⟩ | ⟨h, -, -, -, hq9⟩ | ⟨h, -, -, -, -, hq9⟩ | ⟨h, -, g, e, hg, hg1, -, -, -, -, -, h58, hq9⟩
  · rw [sA_100 h]
    exact iv_day hI hA
  · rcases h with h | h | h | h
    · rw [sA_99 h] at h0 ⊢
      exact iv_pier hI hA _ _ h0
    · rw [sA_111 h] at h0 ⊢
      exact iv_pier hI hA _ _ h0
    · rw [sA_116 h] at h0 ⊢
      exact iv_tear hI hA _ h0
    · rw [sA_120 h] at h0 ⊢
      exact iv_away hI hA _ h0
  · rcases h with h | h | h
    · rw [sA_102 h] at h0 ⊢
      exact iv_lost hI hA _ (hN_2 _ _) _ h0
    · rw [sA_103 h] at h0 ⊢
      exact iv_ride hI hA _ (hN_2 _ _) h0
    · rw [sA_108 h] at h0 ⊢
      exact iv_lost hI hA _ (hN_2 _ _) _ h0
  · rw [sA_109 h] at h0 ⊢
    exact iv_mood hI hA _ _ h0
  · rcases h with h | h
    · rw [sA_112 h] at h0 ⊢
      exact iv_punch hI hA _ (hN_2 _ _) _ h0
    · rw [sA_119 h] at h0 ⊢
      exact iv_wet hI hA _ (hN_2 _ _) _ h0
  · obtain ⟨l1, l2, -⟩ := lf_s f L (p + 1)
    rw [← hg] at l1 l2
    have hgq : q - 7 - p = g := by omega
    have e9 := sA_110 (q := q) (A := A) h
    rw [hgq] at e9
    rw [e9] at h0 ⊢
    refine iv_print hI hA l1 ?_ _ _ _ h0
    unfold wdG
    rw [if_pos rfl, hgq]
theorem sq_iv {f A T : Nat → Int32} {L m b : Nat} (hI : IV b A) (hW : ∀ i, i ≤ m + 1 → WA (sqA f L A i)) (hg : ∀ k, k ≤ m → OG f L (psN f L k) (enN f L k) T k) (hz : ∀ i, i ≤ m → (sqR f L A i).1 = 0) : ∀ i, i ≤ m + 1 → IV (b + i) (sqA f L A i) := by
  intro i
  induction i with
  | zero => exact fun _ => hI
  | succ i ih =>
    intro hi
    exact iv_act (ih (by omega)) (hW i (by omega)) (hg i (by omega)) (hz i (by omega))
