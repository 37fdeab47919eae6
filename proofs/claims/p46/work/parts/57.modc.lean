/-! The reference's copies -/
theorem cp_all {α : Type} {n : Nat} {f g : Nat → α} (h : ∀ i, n ≤ i → f i = g i) : cp n f g = f := by
  funext i
  unfold cp
  by_cases hi : i < n
  · rw [if_pos hi]
  · rw [if_neg hi, h i (by omega)]
/-- the history, with the array F put behind n of them (the eldest goes where there are 8) -/
def hPush (n : Nat) (F H : Nat → Int32) : Nat → Int32 := fun i => if n = 8 then (if i < 1239 then H (i + 177) else if i < 1416 then F (i - 1239) else H i) else (if 177 * n ≤ i ∧ i < 177 * n + 177 then F (i - 177 * n) else H i)
def hShift (k : Nat) (H : Nat → Int32) : Nat → Int32 := fun i => if i < k then H (i + 177) else H i
theorem hShift_s (k : Nat) (H : Nat → Int32) : up (hShift k H) k (hShift k H (k + 177)) = hShift (k + 1) H := by
  funext i
  unfold up hShift
  rw [if_neg (show ¬ k + 177 < k by omega)]
  by_cases h : i = k
  · subst h
    rw [if_pos rfl, if_pos (by omega)]
  · rw [if_neg h]
    by_cases h2 : i < k
    · rw [if_pos h2, if_pos (by omega)]
    · rw [if_neg h2, if_neg (by omega)]
def hPut (b k : Nat) (F H : Nat → Int32) : Nat → Int32 := fun i => if b ≤ i ∧ i < b + k then F (i - b) else H i
theorem hPut_0 (b : Nat) (F H : Nat → Int32) : hPut b 0 F H = H := by
  funext i
  unfold hPut
  rw [if_neg (by omega)]
theorem hPut_s (b k : Nat) (F H : Nat → Int32) : up (hPut b k F H) (b + k) (F k) = hPut b (k + 1) F H := by
  funext i
  unfold up hPut
  by_cases h : i = b + k
  · subst h
    rw [if_pos rfl, if_pos (by omega), show b + k - b = k by omega]
  · rw [if_neg h]
    by_cases h2 : b ≤ i ∧ i < b + k
    · rw [if_pos h2, if_pos (by omega)]
    · rw [if_neg h2, if_neg (by omega)]
section MC
variable {w : FW} {M : Nat} {fl : Nat → Int32} {ar : Nat → Nat → Int32}
theorem m_shift (hB : MB w M) : fLoop (σ := Int32 × FW) (ρ := FW) (fun s21 => (if 1239 ≤ s21.1 then some (.inr s21.2) else fg ((mW w M fl ar).1 (gR s21.2 504 M 0) = 11) inferInstance (fg (¬ ((s21.1 + 177) < 0 ∨ (mW w M fl ar).2.1 (gR s21.2 504 M 0) ≤ Int32.toNatClampNeg (s21.1 + 177))) inferInstance (fg (¬ (s21.1 < 0 ∨ (mW w M fl ar).2.1 (gR s21.2 504 M 0) ≤ Int32.toNatClampNeg s21.1)) inferInstance (some (.inl ((s21.1 + 1), (sI s21.2 601 (gR s21.2 504 M 0) (Int32.toNatClampNeg s21.1) (gI s21.2 601 (gR s21.2 504 M 0) (Int32.toNatClampNeg (s21.1 + 177))))))))))) (0, mW w M fl ar) = some (mW w M fl (up ar 4 (hShift 1239 (ar 4)))) := by
  obtain ⟨zk0, zk1, zk2, zk3, zk4, zk5, zk6, zk7, zk8, zl1, zl2, zl3, zl4, zl5, zl6, zl7, zl8, zr1, zr2, zr3, zr4, zr5, zr6, zr7, zr8⟩ := id hB
  have h0 : ((0 : Int32), mW w M fl ar) = (nI 0, mW w M fl (up ar 4 (hShift 0 (ar 4)))) := by
    rw [show hShift 0 (ar 4) = ar 4 from rfl, up_self]
    rfl
  rw [h0]
  refine fLoop_for (fun k => (nI k, mW w M fl (up ar 4 (hShift k (ar 4))))) 1239 (fun k hk => ?_) ?_
  · have c1 : ¬ (1239 : Int32) ≤ nI k := nI_ge (b := 1239) hk (by decide)
    have e1 : nI k + 177 = nI (k + 177) := nI_add k 177
    have g4 : w.1 (gR w 504 M 0) = 11 := by rw [zr4]; exact zk4
    have f1 : ¬ (nI k + 177 < 0 ∨ w.2.1 (gR w 504 M 0) ≤ (nI k + 177).toNatClampNeg) := by rw [zr4, zl4, e1]; exact ix_ok rfl (by omega) (by decide)
    have f2 : ¬ (nI k < 0 ∨ w.2.1 (gR w 504 M 0) ≤ (nI k).toNatClampNeg) := by rw [zr4, zl4]; exact ix_ok rfl (by omega) (by decide)
    simp only [if_neg c1, mW_R, mW_k, mW_l, fg_t g4, fg_t f1, fg_t f2, zr4, e1, nI_1, nI_clamp (show k < 2 ^ 31 by omega), nI_clamp (show k + 177 < 2 ^ 31 by omega), mW_a4, mW_s4, up_s, up_up, hShift_s]
  · have c1 : (1239 : Int32) ≤ nI 1239 := by decide
    simp only [if_pos c1]
/-- how a public act ends: answer, fields, history -/
def eA (code : Int32) (r : Out) : Int32 := if r.1 = 0 then r.2.1 else 0
def eF (fl : Nat → Int32) (code : Int32) (n : Nat) (r : Out) : Nat → Int32 := if r.1 = 0 then up (up fl 518 r.2.1) 505 (nI (if n = 8 then 8 else n + 1)) else if 0 ≤ r.1 then up (up (up (up fl 517 r.2.1) 515 r.1) 516 r.2.1) 500 code else up fl 500 (-r.1)
def eH (n : Nat) (F H : Nat → Int32) (r : Out) : Nat → Int32 := if r.1 = 0 then hPush n F H else H
end MC
