/-! The reference's functions answer what is meant -/
section MQ
variable {w : FW} {M : Nat} {fl : Nat → Int32} {ar : Nat → Nat → Int32}
theorem ite_some {α : Type} {c : Prop} [Decidable c] (a b : α) : (if c then some a else some b) = some (if c then a else b) := by
  by_cases h : c
  · rw [if_pos h, if_pos h]
  · rw [if_neg h, if_neg h]
theorem pun_0 {A : Nat → Int32} {t h : Nat} : pun A t h = 0 ↔ aH A t h 0 = -1 := by
  unfold pun
  by_cases c : aH A t h 0 = -1
  · rw [if_pos c]; exact ⟨fun _ => c, fun _ => rfl⟩
  · rw [if_neg c]; exact ⟨fun z => absurd z (by decide), fun z => absurd z c⟩
end MQ
