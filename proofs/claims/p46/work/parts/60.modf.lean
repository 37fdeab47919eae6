/-! The reference prints a ticket -/
def printA (n g : Nat) (f t c : Int32) (G A : Nat → Int32) : Nat → Int32 := fun i => if i = 0 then nI (n + 1) else if i = 2 then A 2 + 1 else if 17 + 20 * n ≤ i ∧ i < 17 + 20 * n + 20 then
    (if i = 17 + 20 * n + 16 then -1 else if i = 17 + 20 * n + 12 then -1 else if i = 17 + 20 * n + 11 then -1 else if i = 17 + 20 * n + 9 then c else if i = 17 + 20 * n + 8 then t else if i = 17 + 20 * n + 7 then f else if i < 17 + 20 * n + (g + 1) then G (i - (17 + 20 * n)) else 0) else A i
def gVow (G : Nat → Int32) (g : Nat) : Int32 := cnt (fun k => if vow (G (k + 1)) = -1 then 0 else 1) g
/-- printing the word of g letters G 1 .. G g -/
def sPrint (g : Nat) (f t c : Int32) (G A : Nat → Int32) : Out := if inn f 0 4 = 0 then (-1, 0, A) else if inn t 0 4 = 0 then (-1, 0, A) else if f = t then (-2, 0, A) else if inn c 1 9 = 0 then (-2, 0, A) else if nI g < 2 then (2, nI g, A) else if gVow G g = 0 then (2, nI g, A) else if A 0 = 8 then (1, 8, A) else (0, A 0, printA (aN A) g f t c G A)
section MF
variable {w : FW} {M : Nat} {fl : Nat → Int32} {ar : Nat → Nat → Int32}
end MF
