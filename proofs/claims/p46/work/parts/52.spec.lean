/-! What is meant, over an office's array A (the reference's own row of 177) -/
def aT (A : Nat → Int32) (t e : Nat) : Int32 := A (17 + 20 * t + e)
def aH (A : Nat → Int32) (t h e : Nat) : Int32 := A (17 + 20 * t + (12 + 4 * h + e))
def aL (A : Nat → Int32) (t k : Nat) : Int32 := A (17 + 20 * t + (1 + k))
def vow (c : Int32) : Int32 := if c = 97 then 0 else if c = 101 then 1 else if c = 105 then 2 else if c = 111 then 3 else if c = 117 then 4 else -1
def inn (v a b : Int32) : Int32 := if v < a then 0 else if b < v then 0 else 1
def isCon (c : Int32) : Int32 := if c = 98 then 1 else if c = 100 then 1 else if inn c 107 110 = 0 then (if inn c 114 116 = 0 then 0 else 1) else 1
def isLet (c : Int32) : Int32 := if isCon c = 0 then (if vow c = -1 then 0 else 1) else 1
def m5 (v : Int32) : Int32 := frem (frem v 5 + 5) 5
def vowFor (v : Int32) : Int32 := if v = 0 then 97 else if v = 1 then 101 else if v = 2 then 105 else if v = 3 then 111 else 117
def aHoles (A : Nat → Int32) (t h k : Nat) : Int32 := if vow (aL A t k) = -1 then 0 else if aH A t h 0 = -1 then 0 else 1 + m5 (vow (aL A t k) + aH A t h 0)
def aLeft (A : Nat → Int32) (t h k : Nat) (wet : Int32) : Int32 := if 0 ≤ aHoles A t h k - wet / 3 then aHoles A t h k - wet / 3 else 0
def aRead (A : Nat → Int32) (t h k : Nat) (wet mood : Int32) : Int32 := if vow (aL A t k) = -1 then aL A t k else if aLeft A t h k wet = 0 then 63 else vowFor (m5 (aLeft A t h k wet - 1 - mood))
def aReads (A : Nat → Int32) (t h k : Nat) : Int32 := aRead A t h k (aH A t h 1) (aH A t h 0)
def aLen (A : Nat → Int32) (t : Nat) : Nat := (aT A t 0).toNatClampNeg
def aRight (A : Nat → Int32) (t h : Nat) (wet mood : Int32) : Int32 := cnt (fun k => if aRead A t h k wet mood = aL A t k then 1 else 0) (aLen A t)
def aIsRead (A : Nat → Int32) (t h : Nat) : Int32 := if aH A t h 0 = -1 then 0 else if aRight A t h (aH A t h 1) (aH A t h 0) = aT A t 0 then 1 else 0
def aUnlike (A : Nat → Int32) (t h : Nat) : Int32 := match (List.range (aLen A t)).find? (fun k => decide (¬ aReads A t h k = aL A t k)) with
  | some k => nI k
  | none => -1
def aHolesOf (A : Nat → Int32) (t h : Nat) : Int32 := cnt (fun k => aHoles A t h k) (aLen A t)
def aLeftOf (A : Nat → Int32) (t h : Nat) : Int32 := cnt (fun k => aLeft A t h k (aH A t h 1)) (aLen A t)
def aVowels (A : Nat → Int32) (t : Nat) : Int32 := cnt (fun k => if vow (aL A t k) = -1 then 0 else 1) (aLen A t)
def aN (A : Nat → Int32) : Nat := (A 0).toNatClampNeg
def aTorn (A : Nat → Int32) : Int32 := cnt (fun t => aT A t 10) (aN A)
def aLost (A : Nat → Int32) : Int32 := cnt (fun t => aH A t 0 2 + aH A t 1 2) (aN A)
def pun (A : Nat → Int32) (t h : Nat) : Int32 := if aH A t h 0 = -1 then 0 else 1
def aPunched (A : Nat → Int32) : Int32 := cnt (fun t => pun A t 0 + pun A t 1) (aN A)
def aAllLeft (A : Nat → Int32) : Int32 := cnt (fun t => aLeftOf A t 0 + aLeftOf A t 1) (aN A)
def aShut (A : Nat → Int32) (p : Nat) : Int32 := if ((A 6) >>> (nI p &&& 31)) &&& 1 = 1 then 1 else 0
def aOpen (A : Nat → Int32) : Int32 := cnt (fun p => if aShut A p = 0 then 1 else 0) 5
def aMeas (A : Nat → Int32) (t : Nat) (m : Int32) : Int32 := if m = 0 then aH A t 0 1 + aH A t 1 1 else if m = 1 then aLeftOf A t 0 + aLeftOf A t 1 else aT A t 0
/-- a ticket's entries are as they can be -/
def WTk (A : Nat → Int32) (t : Nat) : Prop := (∃ n, 2 ≤ n ∧ n ≤ 6 ∧ aT A t 0 = nI n ∧ (∀ k, k < n → isLet (aL A t k) = 1) ∧ ∀ k, n ≤ k → k < 6 → aL A t k = 0) ∧ (∃ p, p < 5 ∧ aT A t 7 = nI p) ∧ (∃ p, p < 5 ∧ aT A t 8 = nI p) ∧ (∃ p, p < 10 ∧ aT A t 9 = nI p) ∧ (aT A t 10 = 0 ∨ aT A t 10 = 1) ∧ (aT A t 11 = -1 ∨ ∃ d, d < 100000 ∧ aT A t 11 = nI d) ∧
  (∀ h, h < 2 → (aH A t h 0 = -1 ∨ ∃ m, m < 5 ∧ aH A t h 0 = nI m) ∧ (∃ g, g < 10 ∧ aH A t h 1 = nI g) ∧ (aH A t h 2 = 0 ∨ aH A t h 2 = 1) ∧ (aH A t h 3 = 0 ∨ aH A t h 3 = 1)) ∧ (aH A t 0 3 = 1 ↔ ¬ aT A t 11 = -1)
def WA (A : Nat → Int32) : Prop := (∃ n, n ≤ 8 ∧ A 0 = nI n ∧ ∀ t, t < n → WTk A t) ∧ (∃ n, n ≤ 6 ∧ A 10 = nI n ∧ (∀ k, k < n → isLet (A (11 + k)) = 1) ∧ ∀ k, n ≤ k → k < 6 → A (11 + k) = 0) ∧ (∀ p, p < 3 → ∃ m, m < 5 ∧ A (7 + p) = nI m) ∧ (∃ b, b < 32 ∧ A 6 = nI b) ∧ ∃ d, d < 100000 ∧ A 1 = nI d
theorem WTk.len {A : Nat → Int32} {t : Nat} (h : WTk A t) : aT A t 0 = nI (aLen A t) ∧ aLen A t ≤ 6 := by
  obtain ⟨n, h1, h2, h3, -⟩ := h.1
  have : aLen A t = n := by unfold aLen; rw [h3]; exact nI_clamp (by omega)
  rw [this]
  exact ⟨h3, h2⟩
theorem WA.n {A : Nat → Int32} (h : WA A) : A 0 = nI (aN A) ∧ aN A ≤ 8 ∧ ∀ t, t < aN A → WTk A t := by
  obtain ⟨n, h1, h2, h3⟩ := h.1
  have : aN A = n := by unfold aN; rw [h2]; exact nI_clamp (by omega)
  rw [this]
  exact ⟨h2, h1, h3⟩
/-- an asked number is of a ticket, or is not -/
theorem tick_cases (x : Int32) {n : Nat} (hn : n ≤ 8) : (∃ t, t < n ∧ x = nI t ∧ inn x 0 (nI n - 1) = 1) ∨ inn x 0 (nI n - 1) = 0 := by
  by_cases h0 : x < 0
  · exact Or.inr (if_pos h0)
  · obtain ⟨j, hj, rfl⟩ := nI_of h0
    by_cases h1 : nI n - 1 < nI j
    · refine Or.inr ?_
      unfold inn
      rw [if_neg h0, if_pos h1]
    · refine Or.inl ⟨j, ?_, rfl, ?_⟩
      · cases n with
        | zero =>
          exfalso
          apply h1
          rw [Int32.lt_iff_toInt_lt, nI_toInt hj, show (nI 0 - 1).toInt = -1 from by decide]
          omega
        | succ n =>
          rw [nI_pred] at h1
          have := (not_congr (nI_ltI (a := n) (b := j) (by omega) hj)).mp h1
          omega
      · unfold inn
        rw [if_neg h0, if_neg h1]
theorem inn_cases (x : Int32) (a : Nat) {b : Nat} (hb : b < 2 ^ 31) (ha9 : a < 2 ^ 31) : (∃ j, a ≤ j ∧ j ≤ b ∧ x = nI j ∧ inn x (nI a) (nI b) = 1) ∨ inn x (nI a) (nI b) = 0 := by
  by_cases ha : 2 ^ 31 ≤ a
  · omega
  · by_cases h0 : x < nI a
    · exact Or.inr (if_pos h0)
    · have h2 : ¬ x < 0 := by
        intro z
        apply h0
        rw [Int32.lt_iff_toInt_lt] at z ⊢
        rw [nI_toInt (by omega)]
        simp at z
        omega
      obtain ⟨j, hj, rfl⟩ := nI_of h2
      by_cases h1 : nI b < nI j
      · refine Or.inr ?_
        unfold inn
        rw [if_neg h0, if_pos h1]
      · refine Or.inl ⟨j, ?_, ?_, rfl, ?_⟩
        · have := (not_congr (nI_ltI (a := j) (b := a) hj (by omega))).mp h0
          omega
        · have := (not_congr (nI_ltI (a := b) (b := j) hb hj)).mp h1
          omega
        · unfold inn
          rw [if_neg h0, if_neg h1]
theorem ixe (t e : Nat) : (17 : Int32) + 20 * nI t + nI e = nI (17 + 20 * t + e) := by
  rw [show (17 : Int32) = nI 17 from rfl, show (20 : Int32) = nI 20 from rfl, nI_mul, nI_add, nI_add]
theorem ixh (t h e : Nat) : (17 : Int32) + 20 * nI t + (12 + 4 * nI h + nI e) = nI (17 + 20 * t + (12 + 4 * h + e)) := by
  rw [show (12 : Int32) = nI 12 from rfl, show (4 : Int32) = nI 4 from rfl, nI_mul, nI_add, nI_add, ixe]
theorem ixl (t k : Nat) : (17 : Int32) + 20 * nI t + (1 + nI k) = nI (17 + 20 * t + (1 + k)) := by
  rw [show (1 : Int32) = nI 1 from rfl, nI_add, ixe]
theorem sI_k (w : FW) (c a i : Nat) (v : Int32) : (sI w c a i v).1 = w.1 := rfl
theorem sI_l (w : FW) (c a i : Nat) (v : Int32) : (sI w c a i v).2.1 = w.2.1 := rfl
