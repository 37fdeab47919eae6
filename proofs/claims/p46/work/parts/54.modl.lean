/-! The reference's loops -/
theorem fLoop_bind {σ ρ β : Type} {f : σ → Option (σ ⊕ ρ)} {s : σ} {r : ρ} {g : ρ → Option β} {z : Option β} (st : Nat → σ) (n : Nat) (hs : s = st 0) (hgo : ∀ k, k < n → f (st k) = some (.inl (st (k + 1)))) (hend : f (st n) = some (.inr r)) (hz : g r = z) : (fLoop f s).bind g = z := by
  rw [hs, fLoop_for st n hgo hend]
  exact hz
theorem fLoop_findb {σ ρ β : Type} {f : σ → Option (σ ⊕ ρ)} {s : σ} {g : ρ → Option β} {z : Option β} (st : Nat → σ) (n : Nat) (P : Nat → Prop) [DecidablePred P] {r : ρ} {q : Nat → ρ} (hs : s = st 0) (hgo : ∀ k, k < n → ¬ P k → f (st k) = some (.inl (st (k + 1)))) (hx : ∀ k, k < n → P k → f (st k) = some (.inr (q k))) (hend : f (st n) = some (.inr r)) (hz : g (match (List.range n).find? (fun k => decide (P k)) with | some k => q k | none => r) = z) : (fLoop f s).bind g = z := by
  rw [hs, fLoop_find st n P hgo hx hend]
  exact hz
theorem st_ite {ρ σ : Type} {c : Prop} [Decidable c] (a x y : Int32) (b : σ) : (if c then some (Sum.inl (a + x, b)) else some (Sum.inl (a + y, b))) = (some (Sum.inl (a + (if c then x else y), b)) : Option ((Int32 × σ) ⊕ ρ)) := by
  by_cases h : c
  · rw [if_pos h, if_pos h]
  · rw [if_neg h, if_neg h]
section ML
variable {w : FW} {M : Nat} {fl : Nat → Int32} {ar : Nat → Nat → Int32}
theorem zz_pun (A : Nat → Int32) (t h : Nat) : zz (pun A t h) = pun A t h := by
  unfold zz pun
  by_cases c : aH A t h 0 = -1
  · rw [if_pos c]; rfl
  · rw [if_neg c]; rfl
theorem inn_01 (x a b : Int32) : inn x a b = 0 ∨ inn x a b = 1 := by
  unfold inn
  by_cases h : x < a
  · exact Or.inl (if_pos h)
  · rw [if_neg h]
    by_cases h2 : b < x
    · exact Or.inl (if_pos h2)
    · exact Or.inr (if_neg h2)
end ML
