/-! sum in figures -/
def ac0 (A : Nat → Int32) (k : Nat) : Int32 := lq (qAccount (nI k) 0 0 A)
theorem ac0_e (A : Nat → Int32) (b l m : Int32) (h12 : ¬ b = 12) (h13 : ¬ b = 13) : qAccount b l m A = qAccount b 0 0 A := by
  unfold qAccount
  by_cases c0 : b = 0
  · rw [if_pos c0, if_pos c0]
  rw [if_neg c0, if_neg c0]
  by_cases c1 : b = 1
  · rw [if_pos c1, if_pos c1]
  rw [if_neg c1, if_neg c1]
  by_cases c2 : b = 2
  · rw [if_pos c2, if_pos c2]
  rw [if_neg c2, if_neg c2]
  by_cases c3 : b = 3
  · rw [if_pos c3, if_pos c3]
  rw [if_neg c3, if_neg c3]
  by_cases c4 : b = 4
  · rw [if_pos c4, if_pos c4]
  rw [if_neg c4, if_neg c4]
  by_cases c5 : b = 5
  · rw [if_pos c5, if_pos c5]
  rw [if_neg c5, if_neg c5]
  by_cases c6 : b = 6
  · rw [if_pos c6, if_pos c6]
  rw [if_neg c6, if_neg c6]
  by_cases c7 : b = 7
  · rw [if_pos c7, if_pos c7]
  rw [if_neg c7, if_neg c7]
  by_cases c8 : b = 8
  · rw [if_pos c8, if_pos c8]
  rw [if_neg c8, if_neg c8]
  by_cases c9 : b = 9
  · rw [if_pos c9, if_pos c9]
  rw [if_neg c9, if_neg c9]
  by_cases c10 : b = 10
  · rw [if_pos c10, if_pos c10]
  rw [if_neg c10, if_neg c10]
  by_cases c11 : b = 11
  · rw [if_pos c11, if_pos c11]
  rw [if_neg c11, if_neg c11]
  rw [if_neg h12, if_neg h12, if_neg h13, if_neg h13]
def s12 (A : Nat → Int32) : Nat → Int64
  | 0 => 0
  | k + 1 => 31 * s12 A k + (ac0 A k).toInt64
def s7 (A : Nat → Int32) (t : Nat) (v : Int64) : Nat → Int64
  | 0 => v
  | k + 1 => 31 * (31 * s7 A t v k + (lq (qTicketOf (nI t) (nI k) A)).toInt64) + 7 * (lq (qHalfOf (nI t) 0 (nI k) A)).toInt64 + (lq (qHalfOf (nI t) 1 (nI k) A)).toInt64
def s6 (A : Nat → Int32) (t : Nat) (v : Int64) : Nat → Int64
  | 0 => v
  | k + 1 => 31 * s6 A t v k + (aL A t k).toInt64
def sTk (A : Nat → Int32) : Nat → Int64
  | 0 => s12 A 12
  | t + 1 => s6 A t (s7 A t (sTk A t) 7) (aLen A t)
def sumA (A : Nat → Int32) : Int64 := sTk A (aN A)
theorem e_sum {w : FW} {x o : Nat} {A : Nat → Int32} (X : XO w x o A) (hA : WA A) : F_L_sum x w = some (sumA A) := by
  obtain ⟨hn, h8, hT⟩ := hA.n
  have z0 : zz 0 = nI 0 := by decide
  have z1 : zz 1 = nI 1 := by decide
  unfold F_L_sum
  refine ob (fLoopB_for2 (fun k => (s12 A k, nI k)) 12 rfl (by decide) (fun k hk => ?_) (r := s12 A 12) ?_) ?_
  · dsimp only
    rw [if_neg (show ¬ (12 : Int32) ≤ nI k from nI_ge hk (by decide)), nI_1]
    refine ob (e_account X (nI k)) ?_
    rw [ac0_e A _ _ _ (fun z => by have := (nI_eq (a := k) (b := 12) (by omega) (by decide)).mp z; omega) (fun z => by have := (nI_eq (a := k) (b := 13) (by omega) (by decide)).mp z; omega)]
    rfl
  · dsimp only
    exact if_pos (show (12 : Int32) ≤ nI 12 by decide)
  refine ob (fLoopB_for2 (fun t => (sTk A t, nI t)) (aN A) rfl (by omega) (fun t ht => ?_) (r := sumA A) ?_) rfl
  · dsimp only
    refine ob (e_a0 X) ?_
    rw [hn, if_neg (nI_ge ht (by omega)), nI_1]
    refine ob (fLoopB_for2 (fun k => (s7 A t (sTk A t) k, nI k)) 7 rfl (by decide) (fun k hk => ?_) (r := s7 A t (sTk A t) 7) ?_) ?_
    · dsimp only
      rw [if_neg (show ¬ (7 : Int32) ≤ nI k from nI_ge hk (by decide)), nI_1]
      refine ob (e_ticketOf X (nI t) (nI k)) ?_
      refine ob (e_halfOf X (nI t) (show 0 < 2 by decide) z0 (nI k)) ?_
      refine ob (e_halfOf X (nI t) (show 1 < 2 by decide) z1 (nI k)) ?_
      rfl
    · dsimp only
      exact if_pos (show (7 : Int32) ≤ nI 7 by decide)
    have h6 := lets_6 hA ht
    have ew := (tick_word (hT t ht)).1
    refine ob (fLoopB_for2 (fun k => (s6 A t (s7 A t (sTk A t) 7) k, nI k)) (aLen A t) rfl (by omega) (fun k hk => ?_) (r := s6 A t (s7 A t (sTk A t) 7) (aLen A t)) ?_) ?_
    · dsimp only
      refine ob (e_t0 X hA ht) ?_
      rw [ew, if_neg (nI_ge hk (by omega)), nI_1]
      refine ob (e_word X hA ht hk) ?_
      rfl
    · dsimp only
      refine ob (e_t0 X hA ht) ?_
      rw [ew, if_pos (nI_le (Nat.le_refl _) (by omega))]
    rfl
  · dsimp only
    refine ob (e_a0 X) ?_
    rw [hn, if_pos (nI_le (Nat.le_refl _) (by omega))]
    rfl
theorem sum_cg {w : FW} {x n : Nat} {A A' H S : Nat → Int32} {sv : Int32} (C : CR w x A n H sv S) (e : ∀ k, k < 177 → A' k = A k) : sumA A' = sumA A := by
  have C' := C.cg e
  have h1 := e_sum C.X C.2.2.1
  rw [e_sum C'.X C'.2.2.1] at h1
  exact Option.some.inj h1
