/-! The reference's reading of orders -/
/-- the character at p, -1 behind the last -/
def hd (f : Nat → Int32) (L p : Nat) : Int32 := if p < L then f p else -1
theorem fit_lit {f : Nat → Int32} {L p : Nat} {c : Int32} (h : ¬ c = 33 ∧ ¬ c = 35 ∧ ¬ c = 64 ∧ ¬ c = 104 ∧ ¬ (-1) = c) : fitN f L c p = if hd f L p = c then 1 else 0 := by
  unfold fitN hd
  by_cases hp : p < L
  · rw [if_pos hp, if_pos hp, if_neg h.1, if_neg h.2.1, if_neg h.2.2.1, if_neg h.2.2.2.1]
  · rw [if_neg hp, if_neg hp, if_neg h.2.2.2.2]
theorem fit_dig {f : Nat → Int32} {L p : Nat} : fitN f L 35 p = if inn (hd f L p) 48 57 = 0 then 0 else 1 := by
  unfold fitN hd inn
  by_cases hp : p < L
  · rw [if_pos hp, if_pos hp, if_neg (by decide), if_pos rfl]
    by_cases a : f p < 48
    · rw [if_pos a, if_pos a, if_pos rfl]
    · rw [if_neg a, if_neg a]
      by_cases b : 57 < f p
      · rw [if_pos b, if_pos b, if_pos rfl]
      · rw [if_neg b, if_neg b, if_neg (by decide)]
  · rw [if_neg hp, if_neg hp]
    rfl
theorem fit_h {f : Nat → Int32} {L p : Nat} : fitN f L 104 p = if hd f L p = 111 then 1 else if hd f L p = 114 then 1 else 0 := by
  unfold fitN hd
  by_cases hp : p < L
  · rw [if_pos hp, if_pos hp, if_neg (by decide), if_neg (by decide), if_neg (by decide), if_pos rfl]
  · rw [if_neg hp, if_neg hp]
    rfl
def dv (f : Nat → Int32) (L : Nat) (r : Nat ⊕ Nat) : Int32 := match r with
  | .inl p => if fitN f L 35 p = 0 then 0 else f p - 48
  | .inr _ => 0
theorem bd_01 (r : Nat ⊕ Nat) : bd r = 0 ∨ bd r = 1 := by
  cases r
  · exact Or.inl rfl
  · exact Or.inr rfl
/-- the reference's world while it reads -/
def RX (w : FW) (M : Nat) (fl : Nat → Int32) (ar : Nat → Nat → Int32) (r : Nat ⊕ Nat) (T : Nat → Int32) : FW := mW w M (up (up fl 519 (nI (vl r))) 522 (bd r)) (up ar 6 T)
theorem up3 {fl : Nat → Int32} {a b c : Int32} : up (up (up fl 519 a) 522 b) 519 c = up (up fl 519 c) 522 b := by
  funext i
  unfold up
  by_cases h1 : i = 519
  · rw [if_pos h1, if_neg (by omega), if_pos h1]
  · rw [if_neg h1]
    by_cases h2 : i = 522
    · rw [if_pos h2, if_pos h2]
    · rw [if_neg h2, if_neg h2, if_neg h1, if_neg h1]
section MPA
variable {w : FW} {M L j : Nat} {fl : Nat → Int32} {ar : Nat → Nat → Int32}
theorem rx_f (r : Nat ⊕ Nat) (T : Nat → Int32) {c : Nat} (h1 : ¬ c = 519) (h2 : ¬ c = 522) : gI (RX w M fl ar r T) c M 0 = fl c := by
  unfold RX
  rw [mW_f, up_n h2, up_n h1]
theorem rx_at (r : Nat ⊕ Nat) (T : Nat → Int32) : gI (RX w M fl ar r T) 519 M 0 = nI (vl r) := by
  unfold RX
  rw [mW_f, up_n (by omega), up_s]
theorem rx_bd (r : Nat ⊕ Nat) (T : Nat → Int32) : gI (RX w M fl ar r T) 522 M 0 = bd r := by
  unfold RX
  rw [mW_f, up_s]
theorem rx_5 (r : Nat ⊕ Nat) (T : Nat → Int32) (i : Nat) : gI (RX w M fl ar r T) 601 (M + 5) i = ar 5 i := by
  unfold RX
  rw [mW_a5, up_n (by decide)]
theorem rx_6 (r : Nat ⊕ Nat) (T : Nat → Int32) (i : Nat) : gI (RX w M fl ar r T) 601 (M + 6) i = T i := by
  unfold RX
  rw [mW_a6, up_s]
theorem rx_t (r : Nat ⊕ Nat) (T : Nat → Int32) (i : Nat) (v : Int32) : sI (RX w M fl ar r T) 601 (M + 6) i v = RX w M fl ar r (up T i v) := by
  unfold RX
  rw [mW_s6, up_s, up_up]
theorem rx_s519 (r : Nat ⊕ Nat) (T : Nat → Int32) (p : Nat) (r' : Nat ⊕ Nat) (h1 : bd r' = bd r) (h2 : vl r' = p) : sI (RX w M fl ar r T) 519 M 0 (nI p) = RX w M fl ar r' T := by
  unfold RX
  rw [mW_sf, up3, h1, h2]
theorem rx_s522 (r : Nat ⊕ Nat) (T : Nat → Int32) (v : Int32) (r' : Nat ⊕ Nat) (h1 : bd r' = v) (h2 : vl r' = vl r) : sI (RX w M fl ar r T) 522 M 0 v = RX w M fl ar r' T := by
  unfold RX
  rw [mW_sf, up_up, h1, h2]
/-- what holds of the reader -/
def RH (w : FW) (M L j : Nat) (fl : Nat → Int32) : Prop := MB w M ∧ L ≤ 60 ∧ j ≤ 31 ∧ fl 520 = nI L ∧ fl 521 = nI j
theorem m_here9 (H : RH w M L j fl) (r : Nat ⊕ Nat) (T : Nat → Int32) (hr : vl r < 1000) : F_X5_here M (RX w M fl ar r T) = some (hd (ar 5) L (vl r)) := by
  obtain ⟨hB, hL, hj, f0, f1⟩ := H
  obtain ⟨zk0, zk1, zk2, zk3, zk4, zk5, zk6, zk7, zk8, zl1, zl2, zl3, zl4, zl5, zl6, zl7, zl8, zr1, zr2, zr3, zr4, zr5, zr6, zr7, zr8⟩ := id hB
  unfold F_X5_here hd
  rw [fg_t (show (RX w M fl ar r T).1 M = 6 from zk0), rx_f r T (by omega) (by omega), rx_at, f0]
  by_cases h : vl r < L
  · rw [if_neg (nI_ge h (by omega)), if_pos h, show gR (RX w M fl ar r T) 507 M 0 = M + 5 from zr5, fg_t (show (RX w M fl ar r T).1 (M + 5) = 11 from zk5), fg_t (by show ¬ (nI (vl r) < 0 ∨ w.2.1 (M + 5) ≤ _); rw [zl5]; exact nI_in (by omega) (by decide)), nI_clamp (by omega), rx_5]
  · rw [if_pos (nI_le (by omega) (by omega)), if_neg h]
theorem m_here (H : RH w M L j fl) (r : Nat ⊕ Nat) (T : Nat → Int32) (hr : vl r ≤ L) : F_X5_here M (RX w M fl ar r T) = some (hd (ar 5) L (vl r)) := m_here9 H r T (by have := H.2.1; omega)
theorem m_sign (H : RH w M L j fl) (r : Nat ⊕ Nat) (T : Nat → Int32) (hr : vl r ≤ L) {c : Int32} (hc : ¬ c = 33 ∧ ¬ c = 35 ∧ ¬ c = 64 ∧ ¬ c = 104 ∧ ¬ (-1) = c) : F_X5_sign M c (RX w M fl ar r T) = some (RX w M fl ar (pst (ar 5) L r c) T) := by
  have hh := m_here (ar := ar) H r T hr
  have hB := H.1
  unfold F_X5_sign
  rw [fg_t (show (RX w M fl ar r T).1 M = 6 from hB.1), rx_bd, hh]
  cases r with
  | inl p =>
    by_cases h : hd (ar 5) L p = c
    · have hf : fitN (ar 5) L c p = 1 := by rw [fit_lit hc, if_pos h]
      have e : pst (ar 5) L (.inl p) c = .inl (p + 1) := by rw [pst_1 (by omega), hf]
      have ex : ((if bd (.inl p) = 0 then (some (hd (ar 5) L (vl (.inl p)))).bind (fun r9 => (if r9 = c then some 0 else some 1)) else some 1) : Option Int32) = some 0 := by
        rw [if_pos (show bd (.inl p) = 0 from rfl), Option.bind_some]
        exact if_pos h
      rw [ex, Option.bind_some, fg_t (Or.inl rfl), gI_s, if_pos rfl, rx_s522 (.inl p) _ 0 (.inl p) rfl rfl, rx_at, nI_1, rx_s519 (.inl p) _ (vl (.inl p) + 1) (.inl (p + 1)) rfl rfl, e]
    · have hf : fitN (ar 5) L c p = 0 := by rw [fit_lit hc, if_neg h]
      have e : pst (ar 5) L (.inl p) c = .inr p := pst_0 hf
      have ex : ((if bd (.inl p) = 0 then (some (hd (ar 5) L (vl (.inl p)))).bind (fun r9 => (if r9 = c then some 0 else some 1)) else some 1) : Option Int32) = some 1 := by
        rw [if_pos (show bd (.inl p) = 0 from rfl), Option.bind_some]
        exact if_neg h
      rw [ex, Option.bind_some, fg_t (Or.inr rfl), gI_s, if_neg (by decide), rx_s522 (.inl p) _ 1 (.inr p) rfl rfl, rx_at, add0, rx_s519 (.inr p) _ (vl (.inr p)) (.inr p) rfl rfl, e]
  | inr q =>
    have ex : ((if bd (.inr q) = 0 then (some (hd (ar 5) L (vl (.inr q)))).bind (fun r9 => (if r9 = c then some 0 else some 1)) else some 1) : Option Int32) = some 1 := if_neg (by show ¬ (1 : Int32) = 0; decide)
    rw [ex, Option.bind_some, fg_t (Or.inr rfl), gI_s, if_neg (by decide), rx_s522 (.inr q) _ 1 (.inr q) rfl rfl, rx_at, add0, rx_s519 (.inr q) _ (vl (.inr q)) (.inr q) rfl rfl, pst_r]
theorem m_digit (H : RH w M L j fl) (r : Nat ⊕ Nat) (T : Nat → Int32) (hr : vl r ≤ L) : F_X5_digit M (RX w M fl ar r T) = some (dv (ar 5) L r, RX w M fl ar (pst (ar 5) L r 35) T) := by
  have hh := m_here (ar := ar) H r T hr
  have hL := H.2.1
  have hB := H.1
  obtain ⟨zk0, zk1, zk2, zk3, zk4, zk5, zk6, zk7, zk8, zl1, zl2, zl3, zl4, zl5, zl6, zl7, zl8, zr1, zr2, zr3, zr4, zr5, zr6, zr7, zr8⟩ := id hB
  unfold F_X5_digit
  rw [fg_t (show (RX w M fl ar r T).1 M = 6 from zk0), rx_bd, hh]
  cases r with
  | inl p =>
    have hp : p ≤ L := hr
    by_cases h : inn (hd (ar 5) L p) 48 57 = 0
    · have hf : fitN (ar 5) L 35 p = 0 := by rw [fit_dig, if_pos h]
      have e : pst (ar 5) L (.inl p) 35 = .inr p := pst_0 hf
      have ed : dv (ar 5) L (.inl p) = 0 := if_pos hf
      have ex : ((if bd (.inl p) = 0 then (some (hd (ar 5) L (vl (.inl p)))).bind (fun r11 => (F_X5_in r11 48 57 (RX w M fl ar (.inl p) T)).bind (fun r14 => (if r14 = 0 then some 1 else some 0))) else some 1) : Option Int32) = some 1 := by
        rw [if_pos (show bd (.inl p) = 0 from rfl), Option.bind_some, m_in, Option.bind_some]
        exact if_pos h
      rw [ex, Option.bind_some, fg_t (Or.inr rfl), gI_s, if_neg (by decide), rx_s522 (.inl p) _ 1 (.inr p) rfl rfl, e, ed]
    · have hf : fitN (ar 5) L 35 p = 1 := by rw [fit_dig, if_neg h]
      have hpL : p < L := by
        have := (fit_le (ar 5) L 35 p).resolve_left (by omega)
        omega
      have e : pst (ar 5) L (.inl p) 35 = .inl (p + 1) := by rw [pst_1 (by omega), hf]
      have ed : dv (ar 5) L (.inl p) = ar 5 p - 48 := if_neg (by omega)
      have ex : ((if bd (.inl p) = 0 then (some (hd (ar 5) L (vl (.inl p)))).bind (fun r11 => (F_X5_in r11 48 57 (RX w M fl ar (.inl p) T)).bind (fun r14 => (if r14 = 0 then some 1 else some 0))) else some 1) : Option Int32) = some 0 := by
        rw [if_pos (show bd (.inl p) = 0 from rfl), Option.bind_some, m_in, Option.bind_some]
        exact if_neg h
      rw [ex, Option.bind_some, fg_t (Or.inl rfl), gI_s, if_pos rfl, rx_s522 (.inl p) _ 0 (.inl p) rfl rfl, rx_at, nI_1, rx_s519 (.inl p) _ (vl (.inl p) + 1) (.inl (p + 1)) rfl rfl, rx_at]
      rw [show nI (vl (.inl (p + 1))) - 1 = nI p from nI_pred p, show gR (RX w M fl ar (.inl p) T) 507 M 0 = M + 5 from zr5, show gR (RX w M fl ar (.inl (p + 1)) T) 507 M 0 = M + 5 from zr5, fg_t (show (RX w M fl ar (.inl p) T).1 (M + 5) = 11 from zk5), fg_t (by show ¬ (nI p < 0 ∨ w.2.1 (M + 5) ≤ _); rw [zl5]; exact nI_in (by omega) (by decide)), nI_clamp (by omega), rx_5, e, ed]
  | inr q =>
    have ex : ((if bd (.inr q) = 0 then (some (hd (ar 5) L (vl (.inr q)))).bind (fun r11 => (F_X5_in r11 48 57 (RX w M fl ar (.inr q) T)).bind (fun r14 => (if r14 = 0 then some 1 else some 0))) else some 1) : Option Int32) = some 1 := if_neg (by show ¬ (1 : Int32) = 0; decide)
    rw [ex, Option.bind_some, fg_t (Or.inr rfl), gI_s, if_neg (by decide), rx_s522 (.inr q) _ 1 (.inr q) rfl rfl, pst_r]
    rfl
theorem e4j {k : Nat} : 4 * nI j + nI k = nI (4 * j + k) := by
  rw [show (4 : Int32) = nI 4 from rfl, nI_mul, nI_add]
theorem m_half (H : RH w M L j fl) (r : Nat ⊕ Nat) (T : Nat → Int32) (hr : vl r ≤ L) : F_X5_readsHalf M (RX w M fl ar r T) = some (RX w M fl ar (pst (ar 5) L (pst (ar 5) L r 35) 104) (up (up T (4 * j + 1) (dv (ar 5) L r)) (4 * j + 2) (if hd (ar 5) L (vl (pst (ar 5) L r 35)) = 114 then 1 else 0))) := by
  have hd1 := m_digit (ar := ar) H r T hr
  obtain ⟨hB, hL, hj, f0, f1⟩ := id H
  obtain ⟨zk0, zk1, zk2, zk3, zk4, zk5, zk6, zk7, zk8, zl1, zl2, zl3, zl4, zl5, zl6, zl7, zl8, zr1, zr2, zr3, zr4, zr5, zr6, zr7, zr8⟩ := id hB
  have h2 := (pst_le (f := ar 5) (s := 35) hr).2
  have e1 : 4 * nI j + 1 = nI (4 * j + 1) := e4j (k := 1)
  have e2 : 4 * nI j + 2 = nI (4 * j + 2) := e4j (k := 2)
  have hh := fun (r2 : Nat ⊕ Nat) (T2 : Nat → Int32) (hr2 : vl r2 ≤ L) => m_here (ar := ar) H r2 T2 hr2
  unfold F_X5_readsHalf
  rw [fg_t (show (RX w M fl ar r T).1 M = 6 from zk0), hd1, Option.bind_some, show gR (RX w M fl ar r T) 508 M 0 = M + 6 from zr6, fg_t (show (RX w M fl ar r T).1 (M + 6) = 11 from zk6), rx_f r T (by omega) (by omega), f1, e1, fg_t (by show ¬ (nI (4 * j + 1) < 0 ∨ w.2.1 (M + 6) ≤ _); rw [zl6]; exact nI_in (by omega) (by decide)), nI_clamp (by omega)]
  show (Option.bind (if gI (sI (RX w M fl ar (pst (ar 5) L r 35) T) 601 (M + 6) (4 * j + 1) (dv (ar 5) L r)) 522 M 0 = 0 then (F_X5_here M (sI (RX w M fl ar (pst (ar 5) L r 35) T) 601 (M + 6) (4 * j + 1) (dv (ar 5) L r))).bind (fun r24 => (if r24 = 111 then some 0 else (F_X5_here M (sI (RX w M fl ar (pst (ar 5) L r 35) T) 601 (M + 6) (4 * j + 1) (dv (ar 5) L r))).bind (fun r28 => (if r28 = 114 then some 0 else some 1)))) else some 1 : Option Int32) _) = _
  rw [rx_t, rx_bd, hh _ _ h2]
  revert h2
  cases hs : pst (ar 5) L r 35 with
  | inl p =>
    intro h2
    have fin : ∀ (v : Int32) (r3 : Nat ⊕ Nat), bd r3 = v → vl r3 = p → (v = 0 ∨ v = 1) → pst (ar 5) L (.inl p) 104 = (if v = 0 then .inl (p + 1) else .inr p) → (fg (v = 0 ∨ v = 1) inferInstance ((F_X5_here M (sI (RX w M fl ar (.inl p) (up T (4 * j + 1) (dv (ar 5) L r))) 522 M 0 v)).bind (fun r12 => ((if r12 = 114 then some 1 else some 0) : Option (Int32)).bind (fun x15 => fg (w.1 (gR w 508 M 0) = 11) inferInstance (fg (¬ (((4 * (gI (sI (RX w M fl ar (.inl p) (up T (4 * j + 1) (dv (ar 5) L r))) 522 M 0 v) 521 M 0)) + 2) < 0 ∨ w.2.1 (gR w 508 M 0) ≤ Int32.toNatClampNeg ((4 * (gI (sI (RX w M fl ar (.inl p) (up T (4 * j + 1) (dv (ar 5) L r))) 522 M 0 v) 521 M 0)) + 2))) inferInstance ((if (gI (sI (sI (RX w M fl ar (.inl p) (up T (4 * j + 1) (dv (ar 5) L r))) 522 M 0 v) 601 (gR (sI (RX w M fl ar (.inl p) (up T (4 * j + 1) (dv (ar 5) L r))) 522 M 0 v) 508 M 0) (Int32.toNatClampNeg ((4 * (gI (sI (RX w M fl ar (.inl p) (up T (4 * j + 1) (dv (ar 5) L r))) 522 M 0 v) 521 M 0)) + 2)) x15) 522 M 0) = 0 then some (sI (sI (sI (RX w M fl ar (.inl p) (up T (4 * j + 1) (dv (ar 5) L r))) 522 M 0 v) 601 (gR (sI (RX w M fl ar (.inl p) (up T (4 * j + 1) (dv (ar 5) L r))) 522 M 0 v) 508 M 0) (Int32.toNatClampNeg ((4 * (gI (sI (RX w M fl ar (.inl p) (up T (4 * j + 1) (dv (ar 5) L r))) 522 M 0 v) 521 M 0)) + 2)) x15) 519 M 0 ((gI (sI (sI (RX w M fl ar (.inl p) (up T (4 * j + 1) (dv (ar 5) L r))) 522 M 0 v) 601 (gR (sI (RX w M fl ar (.inl p) (up T (4 * j + 1) (dv (ar 5) L r))) 522 M 0 v) 508 M 0) (Int32.toNatClampNeg ((4 * (gI (sI (RX w M fl ar (.inl p) (up T (4 * j + 1) (dv (ar 5) L r))) 522 M 0 v) 521 M 0)) + 2)) x15) 519 M 0) + 1)) else some (sI (sI (sI (RX w M fl ar (.inl p) (up T (4 * j + 1) (dv (ar 5) L r))) 522 M 0 v) 601 (gR (sI (RX w M fl ar (.inl p) (up T (4 * j + 1) (dv (ar 5) L r))) 522 M 0 v) 508 M 0) (Int32.toNatClampNeg ((4 * (gI (sI (RX w M fl ar (.inl p) (up T (4 * j + 1) (dv (ar 5) L r))) 522 M 0 v) 521 M 0)) + 2)) x15) 519 M 0 ((gI (sI (sI (RX w M fl ar (.inl p) (up T (4 * j + 1) (dv (ar 5) L r))) 522 M 0 v) 601 (gR (sI (RX w M fl ar (.inl p) (up T (4 * j + 1) (dv (ar 5) L r))) 522 M 0 v) 508 M 0) (Int32.toNatClampNeg ((4 * (gI (sI (RX w M fl ar (.inl p) (up T (4 * j + 1) (dv (ar 5) L r))) 522 M 0 v) 521 M 0)) + 2)) x15) 519 M 0) + 0)))))))) : Option FW) = some (RX w M fl ar (pst (ar 5) L (.inl p) 104) (up (up T (4 * j + 1) (dv (ar 5) L r)) (4 * j + 2) (if hd (ar 5) L p = 114 then 1 else 0))) := by
      intro v r3 b1 b2 b3 b4
      have ei : (if hd (ar 5) L p = 114 then some 1 else some 0 : Option Int32) = some (if hd (ar 5) L p = 114 then 1 else 0) := by split <;> rfl
      rw [fg_t b3, rx_s522 (.inl p) _ v r3 b1 b2, hh r3 _ (by rw [b2]; exact h2), Option.bind_some, b2, ei, Option.bind_some]
      show fg (w.1 (gR w 508 M 0) = 11) _ (fg (¬ (4 * gI (RX w M fl ar r3 (up T (4 * j + 1) (dv (ar 5) L r))) 521 M 0 + 2 < 0 ∨ w.2.1 (gR w 508 M 0) ≤ Int32.toNatClampNeg (4 * gI (RX w M fl ar r3 (up T (4 * j + 1) (dv (ar 5) L r))) 521 M 0 + 2))) _ _) = _
      rw [rx_f _ _ (by omega) (by omega), f1, e2, zr6, fg_t zk6, fg_t (by rw [zl6]; exact nI_in (by omega) (by decide)), nI_clamp (by omega)]
      rw [show gR (RX w M fl ar r3 (up T (4 * j + 1) (dv (ar 5) L r))) 508 M 0 = M + 6 from zr6, rx_t, rx_bd, rx_at, b1, b2, b4]
      rcases b3 with z | z
      · rw [z, if_pos rfl, if_pos rfl, nI_1, rx_s519 r3 _ (p + 1) (.inl (p + 1)) (by rw [b1, z]; rfl) rfl]
      · rw [z, if_neg (show ¬ (1 : Int32) = 0 by decide), if_neg (show ¬ (1 : Int32) = 0 by decide), add0, rx_s519 r3 _ p (.inr p) (by rw [b1, z]; rfl) rfl]
    rw [if_pos (show bd (.inl p) = 0 from rfl), Option.bind_some]
    show (Option.bind (if hd (ar 5) L p = 111 then some 0 else (some (hd (ar 5) L p)).bind (fun r28 => (if r28 = 114 then some 0 else some 1)) : Option Int32) _) = _
    by_cases c1 : hd (ar 5) L p = 111
    · have e : pst (ar 5) L (.inl p) 104 = .inl (p + 1) := by
        have hf : fitN (ar 5) L 104 p = 1 := by rw [fit_h, if_pos c1]
        rw [pst_1 (by omega), hf]
      rw [if_pos c1, Option.bind_some]
      exact fin 0 (.inl p) rfl rfl (Or.inl rfl) (by rw [e]; rfl)
    · rw [if_neg c1, Option.bind_some]
      by_cases c2 : hd (ar 5) L p = 114
      · have e : pst (ar 5) L (.inl p) 104 = .inl (p + 1) := by
          have hf : fitN (ar 5) L 104 p = 1 := by rw [fit_h, if_neg c1, if_pos c2]
          rw [pst_1 (by omega), hf]
        have ei : (if hd (ar 5) L p = 114 then some 0 else some 1 : Option Int32) = some 0 := if_pos c2
        rw [ei, Option.bind_some]
        exact fin 0 (.inl p) rfl rfl (Or.inl rfl) (by rw [e]; rfl)
      · have e : pst (ar 5) L (.inl p) 104 = .inr p := by
          have hf : fitN (ar 5) L 104 p = 0 := by rw [fit_h, if_neg c1, if_neg c2]
          exact pst_0 hf
        have ei : (if hd (ar 5) L p = 114 then some 0 else some 1 : Option Int32) = some 1 := if_neg c2
        rw [ei, Option.bind_some]
        exact fin 1 (.inr p) rfl rfl (Or.inr rfl) (by rw [e]; rfl)
  | inr q =>
    intro h2
    have ei : (if hd (ar 5) L q = 114 then some 1 else some 0 : Option Int32) = some (if hd (ar 5) L q = 114 then 1 else 0) := by split <;> rfl
    have hh9 : F_X5_here M (RX w M fl ar (.inr q) (up T (4 * j + 1) (dv (ar 5) L r))) = some (hd (ar 5) L q) := hh (.inr q) _ h2
    rw [if_neg (show ¬ bd (.inr q) = 0 by show ¬ (1 : Int32) = 0; decide), Option.bind_some, fg_t (Or.inr rfl), rx_s522 (.inr q) _ 1 (.inr q) rfl rfl, hh9, Option.bind_some, ei, Option.bind_some]
    show fg (w.1 (gR w 508 M 0) = 11) _ (fg (¬ (4 * gI (RX w M fl ar (.inr q) (up T (4 * j + 1) (dv (ar 5) L r))) 521 M 0 + 2 < 0 ∨ w.2.1 (gR w 508 M 0) ≤ Int32.toNatClampNeg (4 * gI (RX w M fl ar (.inr q) (up T (4 * j + 1) (dv (ar 5) L r))) 521 M 0 + 2))) _ _) = _
    rw [rx_f _ _ (by omega) (by omega), f1, e2]
    refine (fg_t (by rw [zr6]; exact zk6)).trans ?_
    refine (fg_t (by rw [zr6, zl6]; exact nI_in (by omega) (by decide))).trans ?_
    rw [nI_clamp (by omega), show gR (RX w M fl ar (.inr q) (up T (4 * j + 1) (dv (ar 5) L r))) 508 M 0 = M + 6 from zr6, rx_t, rx_bd, rx_at, if_neg (show ¬ bd (.inr q) = 0 by show ¬ (1 : Int32) = 0; decide), add0, rx_s519 (.inr q) _ (vl (.inr q)) (.inr q) rfl rfl, pst_r]
    rfl
end MPA

