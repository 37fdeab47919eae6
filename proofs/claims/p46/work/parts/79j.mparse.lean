/-! The reference's reading of orders -/
/-- the character at p, -1 behind the last -/
def hd (f : Nat → Int32) (L p : Nat) : Int32 := if p < L then f p else -1
theorem fit_lit {f : Nat → Int32} {L p : Nat} {c : Int32} (h : ¬ c = 33 ∧ ¬ c = 35 ∧ ¬ c = 64 ∧ ¬ c = 104 ∧ ¬ (-1) = c) : fitN f L c p = if hd f L p = c then 1 else 0 := by
  unfold fitN hd
  by_cases hp : p < L
  · rw [if_pos hp, if_pos hp, if_neg h.1, if_neg h.2.1, if_neg h.2.2.1, if_neg h.2.2.2.1]
  · rw [if_neg hp, if_neg hp, if_neg h.2.2.2.2]
theorem fit_dig {f : Nat → Int32} {L p : Nat} : fitN f L 35 p = if inn (hd f L p) 48 57 = 0 then 0 else 1 := by
  unfold fitN hd inn
  by_cases hp : p < L
  · rw [if_pos hp, if_pos hp, if_neg (by decide), if_pos rfl]
    by_cases a : f p < 48
    · rw [if_pos a, if_pos a, if_pos rfl]
    · rw [if_neg a, if_neg a]
      by_cases b : 57 < f p
      · rw [if_pos b, if_pos b, if_pos rfl]
      · rw [if_neg b, if_neg b, if_neg (by decide)]
  · rw [if_neg hp, if_neg hp]
    rfl
theorem fit_h {f : Nat → Int32} {L p : Nat} : fitN f L 104 p = if hd f L p = 111 then 1 else if hd f L p = 114 then 1 else 0 := by
  unfold fitN hd
  by_cases hp : p < L
  · rw [if_pos hp, if_pos hp, if_neg (by decide), if_neg (by decide), if_neg (by decide), if_pos rfl]
  · rw [if_neg hp, if_neg hp]
    rfl
def dv (f : Nat → Int32) (L : Nat) (r : Nat ⊕ Nat) : Int32 := match r with
  | .inl p => if fitN f L 35 p = 0 then 0 else f p - 48
  | .inr _ => 0
theorem bd_01 (r : Nat ⊕ Nat) : bd r = 0 ∨ bd r = 1 := by
  cases r
  · exact Or.inl rfl
  · exact Or.inr rfl
/-- the reference's world while it reads -/
def RX (w : FW) (M : Nat) (fl : Nat → Int32) (ar : Nat → Nat → Int32) (r : Nat ⊕ Nat) (T : Nat → Int32) : FW := mW w M (up (up fl 519 (nI (vl r))) 522 (bd r)) (up ar 6 T)
theorem up3 {fl : Nat → Int32} {a b c : Int32} : up (up (up fl 519 a) 522 b) 519 c = up (up fl 519 c) 522 b := by
  funext i
  unfold up
  by_cases h1 : i = 519
  · rw [if_pos h1, if_neg (by omega), if_pos h1]
  · rw [if_neg h1]
    by_cases h2 : i = 522
    · rw [if_pos h2, if_pos h2]
    · rw [if_neg h2, if_neg h2, if_neg h1, if_neg h1]
section MPA
variable {w : FW} {M L j : Nat} {fl : Nat → Int32} {ar : Nat → Nat → Int32}
theorem rx_f (r : Nat ⊕ Nat) (T : Nat → Int32) {c : Nat} (h1 : ¬ c = 519) (h2 : ¬ c = 522) : gI (RX w M fl ar r T) c M 0 = fl c := by
  unfold RX
  rw [mW_f, up_n h2, up_n h1]
theorem rx_at (r : Nat ⊕ Nat) (T : Nat → Int32) : gI (RX w M fl ar r T) 519 M 0 = nI (vl r) := by
  unfold RX
  rw [mW_f, up_n (by omega), up_s]
theorem rx_bd (r : Nat ⊕ Nat) (T : Nat → Int32) : gI (RX w M fl ar r T) 522 M 0 = bd r := by
  unfold RX
  rw [mW_f, up_s]
theorem rx_5 (r : Nat ⊕ Nat) (T : Nat → Int32) (i : Nat) : gI (RX w M fl ar r T) 601 (M + 5) i = ar 5 i := by
  unfold RX
  rw [mW_a5, up_n (by decide)]
theorem rx_6 (r : Nat ⊕ Nat) (T : Nat → Int32) (i : Nat) : gI (RX w M fl ar r T) 601 (M + 6) i = T i := by
  unfold RX
  rw [mW_a6, up_s]
theorem rx_t (r : Nat ⊕ Nat) (T : Nat → Int32) (i : Nat) (v : Int32) : sI (RX w M fl ar r T) 601 (M + 6) i v = RX w M fl ar r (up T i v) := by
  unfold RX
  rw [mW_s6, up_s, up_up]
theorem rx_s519 (r : Nat ⊕ Nat) (T : Nat → Int32) (p : Nat) (r' : Nat ⊕ Nat) (h1 : bd r' = bd r) (h2 : vl r' = p) : sI (RX w M fl ar r T) 519 M 0 (nI p) = RX w M fl ar r' T := by
  unfold RX
  rw [mW_sf, up3, h1, h2]
theorem rx_s522 (r : Nat ⊕ Nat) (T : Nat → Int32) (v : Int32) (r' : Nat ⊕ Nat) (h1 : bd r' = v) (h2 : vl r' = vl r) : sI (RX w M fl ar r T) 522 M 0 v = RX w M fl ar r' T := by
  unfold RX
  rw [mW_sf, up_up, h1, h2]
/-- what holds of the reader -/
def RH (w : FW) (M L j : Nat) (fl : Nat → Int32) : Prop := MB w M ∧ L ≤ 60 ∧ j ≤ 31 ∧ fl 520 = nI L ∧ fl 521 = nI j
theorem e4j {k : Nat} : 4 * nI j + nI k = nI (4 * j + k) := by
  rw [show (4 : Int32) = nI 4 from rfl, nI_mul, nI_add]
end MPA
