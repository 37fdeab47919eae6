/-! The reference's public acts -/
theorem sPrint_congr {g : Nat} {f t c : Int32} {G G' A : Nat → Int32} (h : ∀ i, 1 ≤ i → i ≤ g → G i = G' i) (h0 : G 0 = G' 0) : sPrint g f t c G A = sPrint g f t c G' A := by
  have e1 : gVow G g = gVow G' g := cnt_congr (fun k hk => by rw [h (k + 1) (by omega) (by omega)])
  have e2 : ∀ n, printA n g f t c G A = printA n g f t c G' A := by
    intro n
    funext i
    unfold printA
    by_cases r1 : 17 + 20 * n ≤ i ∧ i < 17 + 20 * n + 20
    · by_cases r2 : i < 17 + 20 * n + (g + 1)
      · have : G (i - (17 + 20 * n)) = G' (i - (17 + 20 * n)) := by
          by_cases z : i - (17 + 20 * n) = 0
          · rw [z]; exact h0
          · exact h _ (by omega) (by omega)
        simp only [this]
      · simp only [if_neg r2]
    · simp only [if_neg r1]
  unfold sPrint
  rw [e1, e2]
def sPrintD (n : Nat) (f t c : Int32) (A : Nat → Int32) : Out := if (sPrint n f t c (fun k => A (10 + k)) A).1 = 0 then (0, (sPrint n f t c (fun k => A (10 + k)) A).2.1, zrA 10 7 (sPrint n f t c (fun k => A (10 + k)) A).2.2) else sPrint n f t c (fun k => A (10 + k)) A
section MG
variable {w : FW} {M : Nat} {fl : Nat → Int32} {ar : Nat → Nat → Int32}
/-- behind remembers -/
def rF (fl : Nat → Int32) : Nat → Int32 := up fl 500 0
def rA (ar : Nat → Nat → Int32) : Nat → Nat → Int32 := up ar 2 (cp 177 (ar 1) (ar 2))
theorem rF_n {fl : Nat → Int32} {c : Nat} (h : ¬ c = 500) : rF fl c = fl c := up_n h
theorem rA_1 (ar : Nat → Nat → Int32) : rA ar 1 = ar 1 := up_n (by decide)
theorem rA_2 (ar : Nat → Nat → Int32) : rA ar 2 = cp 177 (ar 1) (ar 2) := up_s _ _ _
theorem rA_4 (ar : Nat → Nat → Int32) : rA ar 4 = ar 4 := up_n (by decide)
/-- the world behind a public act -/
def pubW (w : FW) (M : Nat) (fl : Nat → Int32) (ar : Nat → Nat → Int32) (code : Int32) (n : Nat) (r : Out) : FW := mW w M (eF (rF fl) code n r) (up (up (rA ar) 1 r.2.2) 4 (eH n (cp 177 (ar 1) (ar 2)) (ar 4) r))
theorem mOut_1 (w : FW) (M : Nat) (fl : Nat → Int32) (ar : Nat → Nat → Int32) (r : Out) : (mOut w M fl ar r).1 = r.1 := rfl
end MG
