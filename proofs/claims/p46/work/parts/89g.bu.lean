/-! A buffer that is filled -/
theorem bu_of {w : FW} {x n L : Nat} {A H S : Nat → Int32} {sv : Int32} {f : Nat → Int32} (C : CR w x A n H sv S) (h8 : gI w 408 x 0 = nI L) (h60 : L ≤ 60) (hf : ∀ i, i < L → gI w 600 (x + 142) i = f i) (hc : ∀ i, i < L → ∃ c, 32 ≤ c ∧ c ≤ 126 ∧ f i = nI c) : BU w x L f := by
  obtain ⟨a1, a2, a3, a4, a5, a6, a7, a8, a9, a10, -⟩ := C.1
  refine ⟨a1, a8, a9, a10, h8, h60, fun i hi => ⟨hf i hi, ?_⟩⟩
  obtain ⟨c, c1, c2, c3⟩ := hc i hi
  rw [c3]
  exact fch_n c (by omega)
