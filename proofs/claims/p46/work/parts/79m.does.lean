/-! What an order does -/
def hN (f : Nat → Int32) (p : Nat) : Nat := if f (p + 2) = 114 then 1 else 0
theorem hN_2 (f : Nat → Int32) (p : Nat) : hN f p < 2 := by
  unfold hN
  split <;> omega
theorem hN_i (f : Nat → Int32) (p : Nat) : (if f (p + 2) = 114 then 1 else 0 : Int32) = nI (hN f p) := by
  unfold hN
  split <;> rfl
def wdG (f : Nat → Int32) (p q k : Nat) : Int32 := if k = 0 then nI (q - 7 - p) else f (p + k)
def sAct (f : Nat → Int32) (p q : Nat) (A : Nat → Int32) : Out :=
  if f p = 100 then sDay A else if f p = 99 then sPier (f (p + 1) - 48) 0 A else if f p = 111 then sPier (f (p + 1) - 48) 1 A else if f p = 116 then sTear (f (p + 1) - 48) A else if f p = 120 then sAway (f (p + 1) - 48) A else
  if f p = 102 then sLost (f (p + 1) - 48) (hN f p) 0 A else if f p = 103 then sRide (f (p + 1) - 48) (hN f p) A else if f p = 108 then sLost (f (p + 1) - 48) (hN f p) 1 A else if f p = 109 then sMood (f (p + 1) - 48) (f (q - 1) - 48) A else
  if f p = 112 then sPunch (f (p + 1) - 48) (hN f p) (f (q - 1) - 48) A else if f p = 119 then sWet (f (p + 1) - 48) (hN f p) (f (q - 1) - 48) A else
  sPrint (q - 7 - p) (f (q - 5) - 48) (f (q - 3) - 48) (f (q - 1) - 48) (wdG f p q) A
theorem sA_100 {f : Nat → Int32} {p q : Nat} {A : Nat → Int32} (h : f p = 100) : sAct f p q A = sDay A := by
  unfold sAct
  rw [if_pos h]
theorem sA_99 {f : Nat → Int32} {p q : Nat} {A : Nat → Int32} (h : f p = 99) : sAct f p q A = sPier (f (p + 1) - 48) 0 A := by
  unfold sAct
  rw [if_neg (show ¬ f p = 100 by rw [h]; decide), if_pos h]
theorem sA_111 {f : Nat → Int32} {p q : Nat} {A : Nat → Int32} (h : f p = 111) : sAct f p q A = sPier (f (p + 1) - 48) 1 A := by
  unfold sAct
  rw [if_neg (show ¬ f p = 100 by rw [h]; decide), if_neg (show ¬ f p = 99 by rw [h]; decide), if_pos h]
theorem sA_116 {f : Nat → Int32} {p q : Nat} {A : Nat → Int32} (h : f p = 116) : sAct f p q A = sTear (f (p + 1) - 48) A := by
  unfold sAct
  rw [if_neg (show ¬ f p = 100 by rw [h]; decide), if_neg (show ¬ f p = 99 by rw [h]; decide), if_neg (show ¬ f p = 111 by rw [h]; decide), if_pos h]
theorem sA_120 {f : Nat → Int32} {p q : Nat} {A : Nat → Int32} (h : f p = 120) : sAct f p q A = sAway (f (p + 1) - 48) A := by
  unfold sAct
  rw [if_neg (show ¬ f p = 100 by rw [h]; decide), if_neg (show ¬ f p = 99 by rw [h]; decide), if_neg (show ¬ f p = 111 by rw [h]; decide), if_neg (show ¬ f p = 116 by rw [h]; decide), if_pos h]
theorem sA_102 {f : Nat → Int32} {p q : Nat} {A : Nat → Int32} (h : f p = 102) : sAct f p q A = sLost (f (p + 1) - 48) (hN f p) 0 A := by
  unfold sAct
  rw [if_neg (show ¬ f p = 100 by rw [h]; decide), if_neg (show ¬ f p = 99 by rw [h]; decide), if_neg (show ¬ f p = 111 by rw [h]; decide), if_neg (show ¬ f p = 116 by rw [h]; decide), if_neg (show ¬ f p = 120 by rw [h]; decide), if_pos h]
theorem sA_103 {f : Nat → Int32} {p q : Nat} {A : Nat → Int32} (h : f p = 103) : sAct f p q A = sRide (f (p + 1) - 48) (hN f p) A := by
  unfold sAct
  rw [if_neg (show ¬ f p = 100 by rw [h]; decide), if_neg (show ¬ f p = 99 by rw [h]; decide), if_neg (show ¬ f p = 111 by rw [h]; decide), if_neg (show ¬ f p = 116 by rw [h]; decide), if_neg (show ¬ f p = 120 by rw [h]; decide), if_neg (show ¬ f p = 102 by rw [h]; decide), if_pos h]
theorem sA_108 {f : Nat → Int32} {p q : Nat} {A : Nat → Int32} (h : f p = 108) : sAct f p q A = sLost (f (p + 1) - 48) (hN f p) 1 A := by
  unfold sAct
  rw [if_neg (show ¬ f p = 100 by rw [h]; decide), if_neg (show ¬ f p = 99 by rw [h]; decide), if_neg (show ¬ f p = 111 by rw [h]; decide), if_neg (show ¬ f p = 116 by rw [h]; decide), if_neg (show ¬ f p = 120 by rw [h]; decide), if_neg (show ¬ f p = 102 by rw [h]; decide), if_neg (show ¬ f p = 103 by rw [h]; decide), if_pos h]
theorem sA_109 {f : Nat → Int32} {p q : Nat} {A : Nat → Int32} (h : f p = 109) : sAct f p q A = sMood (f (p + 1) - 48) (f (q - 1) - 48) A := by
  unfold sAct
  rw [if_neg (show ¬ f p = 100 by rw [h]; decide), if_neg (show ¬ f p = 99 by rw [h]; decide), if_neg (show ¬ f p = 111 by rw [h]; decide), if_neg (show ¬ f p = 116 by rw [h]; decide), if_neg (show ¬ f p = 120 by rw [h]; decide), if_neg (show ¬ f p = 102 by rw [h]; decide), if_neg (show ¬ f p = 103 by rw [h]; decide), if_neg (show ¬ f p = 108 by rw [h]; decide), if_pos h]
theorem sA_112 {f : Nat → Int32} {p q : Nat} {A : Nat → Int32} (h : f p = 112) : sAct f p q A = sPunch (f (p + 1) - 48) (hN f p) (f (q - 1) - 48) A := by
  unfold sAct
  rw [if_neg (show ¬ f p = 100 by rw [h]; decide), if_neg (show ¬ f p = 99 by rw [h]; decide), if_neg (show ¬ f p = 111 by rw [h]; decide), if_neg (show ¬ f p = 116 by rw [h]; decide), if_neg (show ¬ f p = 120 by rw [h]; decide), if_neg (show ¬ f p = 102 by rw [h]; decide), if_neg (show ¬ f p = 103 by rw [h]; decide), if_neg (show ¬ f p = 108 by rw [h]; decide), if_neg (show ¬ f p = 109 by rw [h]; decide), if_pos h]
theorem sA_119 {f : Nat → Int32} {p q : Nat} {A : Nat → Int32} (h : f p = 119) : sAct f p q A = sWet (f (p + 1) - 48) (hN f p) (f (q - 1) - 48) A := by
  unfold sAct
  rw [if_neg (show ¬ f p = 100 by rw [h]; decide), if_neg (show ¬ f p = 99 by rw [h]; decide), if_neg (show ¬ f p = 111 by rw [h]; decide), if_neg (show ¬ f p = 116 by rw [h]; decide), if_neg (show ¬ f p = 120 by rw [h]; decide), if_neg (show ¬ f p = 102 by rw [h]; decide), if_neg (show ¬ f p = 103 by rw [h]; decide), if_neg (show ¬ f p = 108 by rw [h]; decide), if_neg (show ¬ f p = 109 by rw [h]; decide), if_neg (show ¬ f p = 112 by rw [h]; decide), if_pos h]
theorem sA_110 {f : Nat → Int32} {p q : Nat} {A : Nat → Int32} (h : f p = 110) : sAct f p q A = sPrint (q - 7 - p) (f (q - 5) - 48) (f (q - 3) - 48) (f (q - 1) - 48) (wdG f p q) A := by
  unfold sAct
  rw [if_neg (show ¬ f p = 100 by rw [h]; decide), if_neg (show ¬ f p = 99 by rw [h]; decide), if_neg (show ¬ f p = 111 by rw [h]; decide), if_neg (show ¬ f p = 116 by rw [h]; decide), if_neg (show ¬ f p = 120 by rw [h]; decide), if_neg (show ¬ f p = 102 by rw [h]; decide), if_neg (show ¬ f p = 103 by rw [h]; decide), if_neg (show ¬ f p = 108 by rw [h]; decide), if_neg (show ¬ f p = 109 by rw [h]; decide), if_neg (show ¬ f p = 112 by rw [h]; decide), if_neg (show ¬ f p = 119 by rw [h]; decide)]
theorem md_t : ∀ a, a < 100 → ∀ d, d < 10 → frem (nI (a + 100 * d)) 100 = nI a ∧ nI (a + 100 * d) / 100 = nI d := by decide +kernel
section MDO
variable {w : FW} {M L : Nat} {fl : Nat → Int32} {ar : Nat → Nat → Int32}
end MDO
