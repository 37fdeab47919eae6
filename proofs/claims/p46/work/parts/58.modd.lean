/-! The reference: hindrance and ride -/
theorem ob {α β : Type} {o : Option α} {a : α} {f : α → Option β} {z : Option β} (h : o = some a) (k : f a = z) : o.bind f = z := by
  rw [h]
  exact k
theorem obp {α β : Type} {c : Prop} {i : Decidable c} {o o' : Option α} {f : α → Option β} {z : Option β} (hc : c) (k : o.bind f = z) : (@ite _ c i o o').bind f = z := by
  rw [if_pos hc]
  exact k
theorem obn {α β : Type} {c : Prop} {i : Decidable c} {o o' : Option α} {f : α → Option β} {z : Option β} (hc : ¬ c) (k : o'.bind f = z) : (@ite _ c i o o').bind f = z := by
  rw [if_neg hc]
  exact k
theorem obg {α β : Type} {P : Prop} {i : Decidable P} {o : Option α} {f : α → Option β} {z : Option β} (hp : P) (k : o.bind f = z) : (fg P i o).bind f = z := by
  rw [fg_t hp]
  exact k
theorem obb {α β γ : Type} {o : Option α} {g : α → Option β} {f : β → Option γ} {z : Option γ} (k : o.bind (fun x => (g x).bind f) = z) : (o.bind g).bind f = z := by
  rw [Option.bind_assoc]
  exact k
def aFrom (A : Nat → Int32) (t : Nat) : Nat := (aT A t 7).toNatClampNeg
def aTo (A : Nat → Int32) (t : Nat) : Nat := (aT A t 8).toNatClampNeg
def loP (A : Nat → Int32) (t : Nat) : Nat := if aTo A t ≤ aFrom A t then aTo A t else aFrom A t
def hiP (A : Nat → Int32) (t : Nat) : Nat := aFrom A t + aTo A t - loP A t
/-- the reason for which a half can't be ridden, and its detail -/
def sHind (t h : Nat) (A : Nat → Int32) : Int32 × Int32 :=
  if aH A t h 2 = 1 then (4, nI h) else if aH A t h 0 = -1 then (5, nI h) else if aH A t h 3 = 1 then (6, nI h) else
  if h = 1 ∧ aT A t 11 = -1 then (7, A 1) else if h = 1 ∧ aT A t 9 < A 1 - aT A t 11 then (8, A 1 - aT A t 11) else
  if aShut A (loP A t) = 1 then (9, nI (loP A t)) else if aShut A (hiP A t) = 1 then (9, nI (hiP A t)) else if aIsRead A t h = 0 then (10, aUnlike A t h) else (0, 0)
theorem shut_01 (A : Nat → Int32) (p : Nat) : aShut A p = 0 ∨ aShut A p = 1 := by
  unfold aShut
  by_cases h : ((A 6) >>> (nI p &&& 31)) &&& 1 = 1
  · exact Or.inr (if_pos h)
  · exact Or.inl (if_neg h)
theorem read_01 (A : Nat → Int32) (t h : Nat) : aIsRead A t h = 0 ∨ aIsRead A t h = 1 := by
  unfold aIsRead
  by_cases h1 : aH A t h 0 = -1
  · exact Or.inl (if_pos h1)
  · rw [if_neg h1]
    by_cases h2 : aRight A t h (aH A t h 1) (aH A t h 0) = aT A t 0
    · exact Or.inr (if_pos h2)
    · exact Or.inl (if_neg h2)
section MD
variable {w : FW} {M : Nat} {fl : Nat → Int32} {ar : Nat → Nat → Int32}
theorem le9 {x y : Int32} (h : ¬ x < y) : y ≤ x := by
  rw [Int32.lt_iff_toInt_lt] at h
  rw [Int32.le_iff_toInt_le]
  omega
theorem nle9 {x y : Int32} (h : x < y) : ¬ y ≤ x := by
  rw [Int32.lt_iff_toInt_lt] at h
  rw [Int32.le_iff_toInt_le]
  omega
/-- what the act of refusing leaves -/
def hF (fl : Nat → Int32) (r : Int32 × Int32) : Nat → Int32 := if r.1 = 0 then fl else up fl 517 r.2
end MD
