/-! The reference's read, where nothing is at fault -/
section MAC
variable {w : FW} {M L m : Nat} {fl : Nat → Int32} {ar : Nat → Nat → Int32} {T : Nat → Int32}
/-- the reference's world before the i-th order is done -/
def DI (w : FW) (M L m : Nat) (fl : Nat → Int32) (ar : Nat → Nat → Int32) (T : Nat → Int32) (i : Nat) (s : Int32 × FW) : Prop := ∃ fl' ar', s = (nI i, mW w M fl' ar') ∧ ar' 1 = sqA (ar 5) L (ar 1) i ∧ (∀ k, ¬ k = 1 → ¬ k = 8 → ar' k = up (arB ar) 6 T k) ∧ ∀ c, ¬ c = 517 → ¬ c = 518 → fl' c = up (up (up (flB fl L) 521 (nI (m + 1))) 519 (nI L)) 522 0 c
theorem DI0 : DI w M L m fl ar T 0 (0, RX w M (up (flB fl L) 521 (nI (m + 1))) (arB ar) (.inl L) T) :=
  ⟨_, _, rfl, (up_n (by omega)).trans (arB_n (by omega)), fun k _ _ => rfl, fun c _ _ => rfl⟩
theorem oF_n {r : Out} {c : Nat} (h1 : ¬ c = 517) (h2 : ¬ c = 518) : oF fl r c = fl c := by
  unfold oF
  split
  · rfl
  · split
    · exact up_n h2
    · exact up_n h1
end MAC
