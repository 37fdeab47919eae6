/-! The reference: the calls that change nothing -/
section MQU
variable {w : FW} {M : Nat} {fl : Nat → Int32} {ar : Nat → Nat → Int32}
theorem find_map {α : Type} {n : Nat} {P : Nat → Prop} [DecidablePred P] {q : Nat → α} {r : α} {G : α → Option (Int32 × FW)} {z : Option (Int32 × FW)} (hs : ∀ k, k < n → P k → G (q k) = z) (hr : (∀ k, k < n → ¬ P k) → G r = z) : G (match (List.range n).find? (fun k => decide (P k)) with | some k => q k | none => r) = z := by
  cases hf : (List.range n).find? (fun k => decide (P k)) with
  | none => exact hr (fun k hk hp => by have := List.find?_eq_none.mp hf k (List.mem_range.mpr hk); simp [hp] at this)
  | some k => exact hs k (List.mem_range.mp (List.mem_of_find?_eq_some hf)) (by have := List.find?_some hf; simpa using this)
theorem aBest_lt (A : Nat → Int32) (t h : Nat) (u : Nat) : aBest A t h u ≤ u - 1 := by
  induction u with
  | zero => exact Nat.le_refl 0
  | succ u ih =>
    unfold aBest
    split <;> omega
theorem cnt_from (f : Nat → Int32) (a : Int32) (n : Nat) : a + cnt f (n + 1) = (a + cnt f n) + f n := by
  rw [cnt_s, Int32.add_assoc]
theorem isLet_01 (c : Int32) : isLet c = 0 ∨ isLet c = 1 := by
  unfold isLet
  split
  · split
    · exact Or.inl rfl
    · exact Or.inr rfl
  · exact Or.inr rfl
theorem st_4 {ρ : Type} {c1 c2 c3 : Prop} {i1 : Decidable c1} {i2 : Decidable c2} {i3 : Decidable c3} (a b : Int32) {z : Int32} (h : z = if c1 then 1 else if c2 then (if c3 then 0 else 1) else 0) : (if c1 then some (Sum.inl (a + 1, b)) else if c2 then (if c3 then some (Sum.inl (a + 0, b)) else some (Sum.inl (a + 1, b))) else some (Sum.inl (a + 0, b))) = (some (Sum.inl (a + z, b)) : Option ((Int32 × Int32) ⊕ ρ)) := by
  simp only [Int32.add_zero]
  exact st_3 a b h
theorem dry_iff (A : Nat → Int32) (t h : Nat) : (aDry A t h = 0) = (¬ pun A t h = 0 ∧ ¬ 3 ≤ aH A t h 1 ∧ aIsRead A t h = 0) := by
  unfold aDry
  apply propext
  by_cases h1 : pun A t h = 0
  · rw [if_pos h1]
    exact ⟨fun z => absurd z (by decide), fun z => absurd h1 z.1⟩
  · rw [if_neg h1]
    by_cases h2 : 3 ≤ aH A t h 1
    · rw [if_pos h2]
      exact ⟨fun z => absurd z (by decide), fun z => absurd h2 z.2.1⟩
    · rw [if_neg h2]
      by_cases h3 : aIsRead A t h = 0
      · rw [if_pos h3]
        exact ⟨fun _ => ⟨h1, h2, h3⟩, fun _ => rfl⟩
      · rw [if_neg h3]
        exact ⟨fun z => absurd z (by decide), fun z => absurd z.2.2 h3⟩
end MQU
