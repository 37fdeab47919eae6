/-! The reference: rides, tickets thrown away and printed -/
def rideA (t h : Nat) (A : Nat → Int32) : Nat → Int32 := if h = 0 then up (up (up A (17 + 20 * t + (12 + 4 * h + 3)) 1) (17 + 20 * t + 11) (A 1)) 3 (A 3 + 1) else up (up A (17 + 20 * t + (12 + 4 * h + 3)) 1) 4 (A 4 + 1)
def sRide (x : Int32) (h : Nat) (A : Nat → Int32) : Out := if inn x 0 (A 0 - 1) = 0 then (-1, 0, A) else if (sHind x.toNatClampNeg h A).1 ≤ 0 then (0, rideA x.toNatClampNeg h A 3 + rideA x.toNatClampNeg h A 4, rideA x.toNatClampNeg h A) else ((sHind x.toNatClampNeg h A).1, (sHind x.toNatClampNeg h A).2, A)
theorem hind_cases (t h : Nat) (A : Nat → Int32) : (sHind t h A).1 = 0 ∧ sHind t h A = (0, 0) ∨ (¬ (sHind t h A).1 ≤ 0 ∧ ¬ (sHind t h A).1 < 0 ∧ ¬ (sHind t h A).1 = 0) := by
  unfold sHind
  by_cases a1 : aH A t h 2 = 1
  · rw [if_pos a1]; exact Or.inr ⟨show ¬ (4 : Int32) ≤ 0 by decide, show ¬ (4 : Int32) < 0 by decide, show ¬ (4 : Int32) = 0 by decide⟩
  · by_cases a2 : aH A t h 0 = -1
    · rw [if_neg a1, if_pos a2]; exact Or.inr ⟨show ¬ (5 : Int32) ≤ 0 by decide, show ¬ (5 : Int32) < 0 by decide, show ¬ (5 : Int32) = 0 by decide⟩
    · by_cases a3 : aH A t h 3 = 1
      · rw [if_neg a1, if_neg a2, if_pos a3]; exact Or.inr ⟨show ¬ (6 : Int32) ≤ 0 by decide, show ¬ (6 : Int32) < 0 by decide, show ¬ (6 : Int32) = 0 by decide⟩
      · by_cases a4 : h = 1 ∧ aT A t 11 = -1
        · rw [if_neg a1, if_neg a2, if_neg a3, if_pos a4]; exact Or.inr ⟨show ¬ (7 : Int32) ≤ 0 by decide, show ¬ (7 : Int32) < 0 by decide, show ¬ (7 : Int32) = 0 by decide⟩
        · by_cases a5 : h = 1 ∧ aT A t 9 < A 1 - aT A t 11
          · rw [if_neg a1, if_neg a2, if_neg a3, if_neg a4, if_pos a5]; exact Or.inr ⟨show ¬ (8 : Int32) ≤ 0 by decide, show ¬ (8 : Int32) < 0 by decide, show ¬ (8 : Int32) = 0 by decide⟩
          · by_cases a6 : aShut A (loP A t) = 1
            · rw [if_neg a1, if_neg a2, if_neg a3, if_neg a4, if_neg a5, if_pos a6]; exact Or.inr ⟨show ¬ (9 : Int32) ≤ 0 by decide, show ¬ (9 : Int32) < 0 by decide, show ¬ (9 : Int32) = 0 by decide⟩
            · by_cases a7 : aShut A (hiP A t) = 1
              · rw [if_neg a1, if_neg a2, if_neg a3, if_neg a4, if_neg a5, if_neg a6, if_pos a7]; exact Or.inr ⟨show ¬ (9 : Int32) ≤ 0 by decide, show ¬ (9 : Int32) < 0 by decide, show ¬ (9 : Int32) = 0 by decide⟩
              · by_cases a8 : aIsRead A t h = 0
                · rw [if_neg a1, if_neg a2, if_neg a3, if_neg a4, if_neg a5, if_neg a6, if_neg a7, if_pos a8]; exact Or.inr ⟨show ¬ (10 : Int32) ≤ 0 by decide, show ¬ (10 : Int32) < 0 by decide, show ¬ (10 : Int32) = 0 by decide⟩
                · rw [if_neg a1, if_neg a2, if_neg a3, if_neg a4, if_neg a5, if_neg a6, if_neg a7, if_neg a8]; exact Or.inl ⟨rfl, rfl⟩
section ME
variable {w : FW} {M : Nat} {fl : Nat → Int32} {ar : Nat → Nat → Int32}
theorem mOut_hind (w : FW) (M : Nat) (fl : Nat → Int32) (ar : Nat → Nat → Int32) {r : Int32 × Int32} (h1 : ¬ r.1 < 0) (h0 : ¬ r.1 = 0) : mOut w M fl ar (r.1, r.2, ar 1) = (r.1, mW w M (hF fl r) ar) := by
  unfold mOut oF hF
  rw [if_neg h1, if_neg h0, up_self]
  simp only [if_neg h0]
def dropA (t n : Nat) (A : Nat → Int32) : Nat → Int32 := fun i => if i = 0 then nI (n - 1) else if 17 + 20 * t ≤ i ∧ i < 17 + 20 * (n - 1) then A (i + 20) else if 17 + 20 * (n - 1) ≤ i ∧ i < 17 + 20 * n then 0 else A i
def sAway (x : Int32) (A : Nat → Int32) : Out := if inn x 0 (A 0 - 1) = 0 then (-1, 0, A) else (0, nI (aN A - 1), dropA x.toNatClampNeg (aN A) A)
def shA (t k : Nat) (A : Nat → Int32) : Nat → Int32 := fun i => if 17 + 20 * t ≤ i ∧ i < 17 + 20 * t + k then A (i + 20) else A i
theorem shA_s (t k : Nat) (A : Nat → Int32) : up (shA t k A) (17 + (20 * t + k)) (shA t k A (17 + (20 * t + k) + 20)) = shA t (k + 1) A := by
  funext i
  unfold up shA
  rw [if_neg (show ¬ (17 + 20 * t ≤ 17 + (20 * t + k) + 20 ∧ 17 + (20 * t + k) + 20 < 17 + 20 * t + k) by omega)]
  by_cases h : i = 17 + (20 * t + k)
  · subst h
    rw [if_pos rfl, if_pos (by omega)]
  · rw [if_neg h]
    by_cases h2 : 17 + 20 * t ≤ i ∧ i < 17 + 20 * t + k
    · rw [if_pos h2, if_pos (by omega)]
    · rw [if_neg h2, if_neg (by omega)]
def zrA (b k : Nat) (A : Nat → Int32) : Nat → Int32 := fun i => if b ≤ i ∧ i < b + k then 0 else A i
theorem zrA_0 (b : Nat) (A : Nat → Int32) : zrA b 0 A = A := by
  funext i
  unfold zrA
  rw [if_neg (by omega)]
theorem zrA_s (b k : Nat) (A : Nat → Int32) : up (zrA b k A) (b + k) 0 = zrA b (k + 1) A := by
  funext i
  unfold up zrA
  by_cases h : i = b + k
  · rw [if_pos h, if_pos (by omega)]
  · rw [if_neg h]
    by_cases h2 : b ≤ i ∧ i < b + k
    · rw [if_pos h2, if_pos (by omega)]
    · rw [if_neg h2, if_neg (by omega)]
end ME
