/-! The reference's acts. An act's outcome: (result, number, array): result below 0: thrown for an argument; 0: done, the number is the answer; above 0: refused, the number is the detail. -/
def cp {α : Type} (n : Nat) (f g : Nat → α) : Nat → α := fun i => if i < n then f i else g i
theorem cp_0 {α : Type} (f g : Nat → α) : cp 0 f g = g := rfl
theorem cp_s {α : Type} (n : Nat) (f g : Nat → α) : up (cp n f g) n (f n) = cp (n + 1) f g := by
  funext i
  unfold up cp
  by_cases h : i = n
  · subst h
    rw [if_pos rfl, if_pos (by omega)]
  · rw [if_neg h]
    by_cases h2 : i < n
    · rw [if_pos h2, if_pos (by omega)]
    · rw [if_neg h2, if_neg (by omega)]
theorem cp_l {α : Type} {n i : Nat} {f g : Nat → α} (h : i < n) : cp n f g i = f i := if_pos h
theorem cp_r {α : Type} {n i : Nat} {f g : Nat → α} (h : ¬ i < n) : cp n f g i = g i := if_neg h
theorem up_up {α : Type} (f : Nat → α) (c : Nat) (v v' : α) : up (up f c v) c v' = up f c v' := by
  funext x
  unfold up
  by_cases h : x = c
  · rw [if_pos h, if_pos h]
  · rw [if_neg h, if_neg h, if_neg h]
theorem up_self {α : Type} (f : Nat → α) (c : Nat) : up f c (f c) = f := by
  funext x
  unfold up
  by_cases h : x = c
  · rw [if_pos h, h]
  · rw [if_neg h]
theorem up_swap {α : Type} {f : Nat → α} {c d : Nat} {v v' : α} (h : ¬ c = d) : up (up f c v) d v' = up (up f d v') c v := by
  funext x
  unfold up
  by_cases h1 : x = d
  · have : ¬ x = c := fun z => h (z.symm.trans h1)
    rw [if_pos h1, if_neg this, if_pos h1]
  · rw [if_neg h1, if_neg h1]
abbrev Out : Type := Int32 × Int32 × (Nat → Int32)
/-- where an act's outcome is put down -/
def oF (fl : Nat → Int32) (o : Out) : Nat → Int32 := if o.1 < 0 then fl else if o.1 = 0 then up fl 518 o.2.1 else up fl 517 o.2.1
def mOut (w : FW) (M : Nat) (fl : Nat → Int32) (ar : Nat → Nat → Int32) (o : Out) : Int32 × FW := (o.1, mW w M (oF fl o) (up ar 1 o.2.2))
theorem mOut_bad (w : FW) (M : Nat) (fl : Nat → Int32) (ar : Nat → Nat → Int32) {x : Int32} (hx : x < 0) : mOut w M fl ar (x, 0, ar 1) = (x, mW w M fl ar) := by
  unfold mOut oF
  rw [if_pos hx, up_self]
theorem mOut_no (w : FW) (M : Nat) (fl : Nat → Int32) (ar : Nat → Nat → Int32) {x y : Int32} (hx : ¬ x < 0) (h0 : ¬ x = 0) : mOut w M fl ar (x, y, ar 1) = (x, mW w M (up fl 517 y) ar) := by
  unfold mOut oF
  rw [if_neg hx, if_neg h0, up_self]
theorem mOut_ok (w : FW) (M : Nat) (fl : Nat → Int32) (ar : Nat → Nat → Int32) (y : Int32) (B : Nat → Int32) : mOut w M fl ar (0, y, B) = (0, mW w M (up fl 518 y) (up ar 1 B)) := rfl
def sLetter (c : Int32) (A : Nat → Int32) : Out := if isLet c = 0 then (-1, 0, A) else if A 10 = 6 then (1, 6, A) else (0, A 10 + 1, up (up A (11 + (A 10).toNatClampNeg) c) 10 (A 10 + 1))
def sUnletter (A : Nat → Int32) : Out := if A 10 = 0 then (11, A 0, A) else (0, A 10 - 1, up (up A (10 + (A 10).toNatClampNeg) 0) 10 (A 10 - 1))
def sMood (p m : Int32) (A : Nat → Int32) : Out := if inn p 0 2 = 0 then (-1, 0, A) else if inn m 0 4 = 0 then (-2, 0, A) else if A (7 + p.toNatClampNeg) = m then (3, m, A) else (0, A (7 + p.toNatClampNeg), up A (7 + p.toNatClampNeg) m)
def sPier (p z : Int32) (A : Nat → Int32) : Out := if inn p 0 4 = 0 then (-1, 0, A) else if aShut A p.toNatClampNeg = z then (0, aOpen (up A 6 (A 6 ^^^ (1 <<< (p &&& 31)))), up A 6 (A 6 ^^^ (1 <<< (p &&& 31)))) else (3, if z = 0 then 0 else 1, A)
def sDay (A : Nat → Int32) : Out := (0, A 1 + 1, up A 1 (A 1 + 1))
def iH (t h e : Nat) : Nat := 17 + 20 * t + (12 + 4 * h + e)
def sTear (x : Int32) (A : Nat → Int32) : Out := if inn x 0 (A 0 - 1) = 0 then (-1, 0, A) else if aT A x.toNatClampNeg 10 = 1 then (3, 1, A) else (0, aTorn (up A (17 + 20 * x.toNatClampNeg + 10) 1), up A (17 + 20 * x.toNatClampNeg + 10) 1)
def lostA (t h : Nat) (v : Int32) (A : Nat → Int32) : Nat → Int32 := if aT A t 10 = 0 then up (up A (iH t h 2) v) (iH t (1 - h) 2) v else up A (iH t h 2) v
def sLost (x : Int32) (h : Nat) (v : Int32) (A : Nat → Int32) : Out := if inn x 0 (A 0 - 1) = 0 then (-1, 0, A) else if aH A x.toNatClampNeg h 2 = v then (3, 1, A) else (0, aLost (lostA x.toNatClampNeg h v A), lostA x.toNatClampNeg h v A)
def sPunch (x : Int32) (h : Nat) (p : Int32) (A : Nat → Int32) : Out := if inn x 0 (A 0 - 1) = 0 then (-1, 0, A) else if inn p 0 2 = 0 then (-1, 0, A) else if aH A x.toNatClampNeg h 0 = -1 then
    (0, aHolesOf (up A (iH x.toNatClampNeg h 0) (A (7 + p.toNatClampNeg))) x.toNatClampNeg h, up (up A (iH x.toNatClampNeg h 0) (A (7 + p.toNatClampNeg))) 5 (A 5 + aHolesOf (up A (iH x.toNatClampNeg h 0) (A (7 + p.toNatClampNeg))) x.toNatClampNeg h))
  else (3, 1, A)
def wet9 (a b : Int32) : Int32 := if a + b ≤ 9 then a + b else 9
def wetA (t h : Nat) (b : Int32) (A : Nat → Int32) : Nat → Int32 := up A (iH t h 1) (wet9 (aH A t h 1) b)
def wetB (t h : Nat) (b : Int32) (A : Nat → Int32) : Nat → Int32 := if aT A t 10 = 0 then
    (if 5 < aH (wetA t (1 - h) (b / 2) (wetA t h b A)) t 0 1 then up (wetA t (1 - h) (b / 2) (wetA t h b A)) (17 + 20 * t + 10) 1 else if aH (wetA t (1 - h) (b / 2) (wetA t h b A)) t 1 1 ≤ 5 then wetA t (1 - h) (b / 2) (wetA t h b A) else up (wetA t (1 - h) (b / 2) (wetA t h b A)) (17 + 20 * t + 10) 1)
  else wetA t h b A
def sWet (x : Int32) (h : Nat) (b : Int32) (A : Nat → Int32) : Out := if inn x 0 (A 0 - 1) = 0 then (-1, 0, A) else if inn b 1 9 = 0 then (-2, 0, A) else (0, aH (wetB x.toNatClampNeg h b A) x.toNatClampNeg h 1, wetB x.toNatClampNeg h b A)
section MA
variable {w : FW} {M : Nat} {fl : Nat → Int32} {ar : Nat → Nat → Int32}
theorem ixk {i n : Nat} {x : Int32} (h : x = nI n) : nI i + x = nI (i + n) := by rw [h, nI_add]
theorem aN_up {A : Nat → Int32} {i : Nat} {v : Int32} (h : ¬ i = 0) : aN (up A i v) = aN A := by
  unfold aN
  rw [up_n (fun z => h z.symm)]
end MA
