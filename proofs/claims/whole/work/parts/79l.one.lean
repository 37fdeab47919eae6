/-! The reference reads one order: by its first character -/
section MON
variable {w : FW} {M L j : Nat} {fl : Nat → Int32} {ar : Nat → Nat → Int32}
def OneR (w : FW) (M L j : Nat) (fl : Nat → Int32) (ar : Nat → Nat → Int32) (p : Nat) (T : Nat → Int32) : Prop := ∃ T', F_X5_readsOne M (RX w M fl ar (.inl p) T) = some (sI (RX w M fl ar (eoo (ar 5) L p) T') 521 M 0 (nI (j + 1))) ∧ (∀ i, i < 4 * j → T' i = T i) ∧ ∀ q, eoo (ar 5) L p = .inl q → OG (ar 5) L p q T' j
theorem one_none (H : RH w M L j fl) {p : Nat} (hp : p ≤ L) (h : ¬ p < L) (T : Nat → Int32) : OneR w M L j fl ar p T := by
  have hh := m_here (ar := ar) H (.inl p) T hp
  have hj := H.2.2.1
  have f1 := H.2.2.2.2
  have e0 : 4 * nI j = nI (4 * j) := by rw [show (4 : Int32) = nI 4 from rfl, nI_mul]
  have ehd : hd (ar 5) L (vl (.inl p)) = -1 := if_neg h
  have heoo : eoo (ar 5) L p = .inr p := by
    unfold eoo shN'
    rw [if_neg h]
    exact pst_0 (if_neg h)
  have hW2 : sI (sI (RX w M fl ar (.inl p) T) 601 (gR (RX w M fl ar (.inl p) T) 508 M 0) (Int32.toNatClampNeg (4 * (gI (RX w M fl ar (.inl p) T) 521 M 0))) (-1)) 519 M 0 ((gI (sI (RX w M fl ar (.inl p) T) 601 (gR (RX w M fl ar (.inl p) T) 508 M 0) (Int32.toNatClampNeg (4 * (gI (RX w M fl ar (.inl p) T) 521 M 0))) (-1)) 519 M 0) + 0) = RX w M fl ar (.inl p) (up T (4 * j) (-1)) := by
    rw [(rx_r6 H _ _).1, rx_f _ _ (by omega) (by omega), f1, e0, nI_clamp (by omega), rx_t, rx_at, add0]
    exact rx_s519 (.inl p) _ (vl (.inl p)) (.inl p) rfl rfl
  refine ⟨up T (4 * j) (-1), ?_, fun i hi => up_n (by omega), fun q hq => by rw [heoo] at hq; cases hq⟩
  unfold F_X5_readsOne
  refine (fg_t H.1.1).trans ?_
  rw [hh, ehd, Option.bind_some]
  refine (fg_t (by rw [(rx_r6 H _ _).1]; exact (rx_r6 (ar := ar) H (.inl p) T).2)).trans ?_
  refine (fg_t (by rw [(rx_r6 H _ _).1, rx_f _ _ (by omega) (by omega), f1, e0]; exact rx_i6 H (k := 0) (by omega) _ rfl)).trans ?_
  rw [if_pos rfl, Option.bind_some, hW2, if_neg (show ¬ (-1 : Int32) = 99 by decide), if_neg (show ¬ (-1 : Int32) = 100 by decide), if_neg (show ¬ (-1 : Int32) = 101 by decide), if_neg (show ¬ (-1 : Int32) = 102 by decide), if_neg (show ¬ (-1 : Int32) = 103 by decide), if_neg (show ¬ (-1 : Int32) = 104 by decide), if_neg (show ¬ (-1 : Int32) = 105 by decide), if_neg (show ¬ (-1 : Int32) = 106 by decide), if_neg (show ¬ (-1 : Int32) = 107 by decide), if_neg (show ¬ (-1 : Int32) = 108 by decide), if_neg (show ¬ (-1 : Int32) = 109 by decide), if_neg (show ¬ (-1 : Int32) = 110 by decide), if_neg (show ¬ (-1 : Int32) = 111 by decide), if_neg (show ¬ (-1 : Int32) = 112 by decide), if_neg (show ¬ (-1 : Int32) = 113 by decide), if_neg (show ¬ (-1 : Int32) = 114 by decide), if_neg (show ¬ (-1 : Int32) = 115 by decide), if_neg (show ¬ (-1 : Int32) = 116 by decide), if_neg (show ¬ (-1 : Int32) = 117 by decide), if_neg (show ¬ (-1 : Int32) = 118 by decide), if_neg (show ¬ (-1 : Int32) = 119 by decide), if_neg (show ¬ (-1 : Int32) = 120 by decide), if_pos rfl, Option.bind_some, rx_s522 (.inl p) _ 1 (.inr p) rfl rfl, rx_at, Int32.sub_zero, rx_s519 (.inr p) _ (vl (.inr p)) (.inr p) rfl rfl, one_end H, heoo]
theorem one_100 (H : RH w M L j fl) {p : Nat} (h : p < L) (hc : ar 5 p = 100) (T : Nat → Int32) : OneR w M L j fl ar p T := by
  have hj := H.2.2.1
  have f1 := H.2.2.2.2
  have e1 : 4 * nI j + 1 = nI (4 * j + 1) := e4j (k := 1)
  have e2 : 4 * nI j + 2 = nI (4 * j + 2) := e4j (k := 2)
  have e3 : 4 * nI j + 3 = nI (4 * j + 3) := e4j (k := 3)
  have q1 : ∀ (r : Nat ⊕ Nat) (T : Nat → Int32), gR (RX w M fl ar r T) 508 M 0 = M + 6 := fun r T => (rx_r6 H r T).1
  have q2 : ∀ (r : Nat ⊕ Nat) (T : Nat → Int32), gI (RX w M fl ar r T) 521 M 0 = nI j := fun r T => (rx_f r T (by omega) (by omega)).trans f1
  have k6 : w.1 (M + 6) = 11 := (rx_r6 (ar := ar) H (.inl p) T).2
  have hne : ¬ ar 5 p = -1 := by rw [hc]; decide
  have h1 : vl (.inl (p + 1)) ≤ L := h
  have h2 := (pst_le (f := ar 5) (s := 35) h1).2
  have hp1 : pst (ar 5) L (.inl p) 100 = .inl (p + 1) := by
    have hf : fitN (ar 5) L 100 p = 1 := by
      rw [fit_lit (by decide), show hd (ar 5) L p = 100 from (if_pos h).trans hc, if_pos rfl]
    rw [pst_1 (by omega), hf]
  have heoo : eoo (ar 5) L p = .inl (p + 1) := by
    unfold eoo shN'
    rw [if_pos h, hc, show shp 100 = 13 from by decide]
    show pst (ar 5) L (.inl p) 100 = _
    rw [hp1]
  refine ⟨up T (4 * j) 100, ?_, fun i hi => up_n (by omega), fun q hq => ?_⟩
  · rw [one_head H h hne, hc, if_neg (show ¬ (100 : Int32) = 99 by decide), if_pos rfl]
    rw [Option.bind_some, one_end H, heoo]
  · rw [heoo] at hq
    cases hq
    exact Or.inl ⟨hc, up_s _ _ _, rfl⟩
theorem one_99 (H : RH w M L j fl) {p : Nat} (h : p < L) (hc : ar 5 p = 99) (T : Nat → Int32) : OneR w M L j fl ar p T := by
  have hj := H.2.2.1
  have f1 := H.2.2.2.2
  have e1 : 4 * nI j + 1 = nI (4 * j + 1) := e4j (k := 1)
  have e2 : 4 * nI j + 2 = nI (4 * j + 2) := e4j (k := 2)
  have e3 : 4 * nI j + 3 = nI (4 * j + 3) := e4j (k := 3)
  have q1 : ∀ (r : Nat ⊕ Nat) (T : Nat → Int32), gR (RX w M fl ar r T) 508 M 0 = M + 6 := fun r T => (rx_r6 H r T).1
  have q2 : ∀ (r : Nat ⊕ Nat) (T : Nat → Int32), gI (RX w M fl ar r T) 521 M 0 = nI j := fun r T => (rx_f r T (by omega) (by omega)).trans f1
  have k6 : w.1 (M + 6) = 11 := (rx_r6 (ar := ar) H (.inl p) T).2
  have hne : ¬ ar 5 p = -1 := by rw [hc]; decide
  have h1 : vl (.inl (p + 1)) ≤ L := h
  have h2 := (pst_le (f := ar 5) (s := 35) h1).2
  have hp1 : pst (ar 5) L (.inl p) 99 = .inl (p + 1) := by
    have hf : fitN (ar 5) L 99 p = 1 := by
      rw [fit_lit (by decide), show hd (ar 5) L p = 99 from (if_pos h).trans hc, if_pos rfl]
    rw [pst_1 (by omega), hf]
  have heoo : eoo (ar 5) L p = pst (ar 5) L (.inl (p + 1)) 35 := by
    unfold eoo shN'
    rw [if_pos h, hc, show shp 99 = 10 from by decide]
    show pst (ar 5) L (pst (ar 5) L (.inl p) 99) 35 = _
    rw [hp1]
  refine ⟨up (up T (4 * j) 99) (4 * j + 1) (dv (ar 5) L (.inl (p + 1))), ?_, fun i hi => by rw [up_n (by omega), up_n (by omega)], fun q hq => ?_⟩
  · rw [one_head H h hne, hc, if_pos rfl]
    refine ob (a := RX w M fl ar (eoo (ar 5) L p) (up (up T (4 * j) 99) (4 * j + 1) (dv (ar 5) L (.inl (p + 1))))) ?_ ?_
    · rw [m_digit H (.inl (p + 1)) _ h1, Option.bind_some]
      refine (fg_t (by rw [q1, q2, e1]; exact rx_i6 H (by omega) _ rfl)).trans ?_
      dsimp only
      rw [q1, q2, e1, nI_clamp (by omega), rx_t, heoo]
    · show some (sI _ 521 M 0 (gI _ 521 M 0 + 1)) = _
      rw [one_end H]
  · rw [heoo] at hq
    obtain ⟨p', e, a1, a2, a3, -⟩ := dig_inv hq
    cases e
    refine Or.inr (Or.inl ⟨Or.inl hc, ?_, ?_, a1⟩)
    · rw [up_n (by omega), up_s, hc]
    · rw [up_s, a3]
theorem one_111 (H : RH w M L j fl) {p : Nat} (h : p < L) (hc : ar 5 p = 111) (T : Nat → Int32) : OneR w M L j fl ar p T := by
  have hj := H.2.2.1
  have f1 := H.2.2.2.2
  have e1 : 4 * nI j + 1 = nI (4 * j + 1) := e4j (k := 1)
  have e2 : 4 * nI j + 2 = nI (4 * j + 2) := e4j (k := 2)
  have e3 : 4 * nI j + 3 = nI (4 * j + 3) := e4j (k := 3)
  have q1 : ∀ (r : Nat ⊕ Nat) (T : Nat → Int32), gR (RX w M fl ar r T) 508 M 0 = M + 6 := fun r T => (rx_r6 H r T).1
  have q2 : ∀ (r : Nat ⊕ Nat) (T : Nat → Int32), gI (RX w M fl ar r T) 521 M 0 = nI j := fun r T => (rx_f r T (by omega) (by omega)).trans f1
  have k6 : w.1 (M + 6) = 11 := (rx_r6 (ar := ar) H (.inl p) T).2
  have hne : ¬ ar 5 p = -1 := by rw [hc]; decide
  have h1 : vl (.inl (p + 1)) ≤ L := h
  have h2 := (pst_le (f := ar 5) (s := 35) h1).2
  have hp1 : pst (ar 5) L (.inl p) 111 = .inl (p + 1) := by
    have hf : fitN (ar 5) L 111 p = 1 := by
      rw [fit_lit (by decide), show hd (ar 5) L p = 111 from (if_pos h).trans hc, if_pos rfl]
    rw [pst_1 (by omega), hf]
  have heoo : eoo (ar 5) L p = pst (ar 5) L (.inl (p + 1)) 35 := by
    unfold eoo shN'
    rw [if_pos h, hc, show shp 111 = 11 from by decide]
    show pst (ar 5) L (pst (ar 5) L (.inl p) 111) 35 = _
    rw [hp1]
  refine ⟨up (up T (4 * j) 111) (4 * j + 1) (dv (ar 5) L (.inl (p + 1))), ?_, fun i hi => by rw [up_n (by omega), up_n (by omega)], fun q hq => ?_⟩
  · rw [one_head H h hne, hc, if_neg (show ¬ (111 : Int32) = 99 by decide), if_neg (show ¬ (111 : Int32) = 100 by decide), if_neg (show ¬ (111 : Int32) = 101 by decide), if_neg (show ¬ (111 : Int32) = 102 by decide), if_neg (show ¬ (111 : Int32) = 103 by decide), if_neg (show ¬ (111 : Int32) = 104 by decide), if_neg (show ¬ (111 : Int32) = 105 by decide), if_neg (show ¬ (111 : Int32) = 106 by decide), if_neg (show ¬ (111 : Int32) = 107 by decide), if_neg (show ¬ (111 : Int32) = 108 by decide), if_neg (show ¬ (111 : Int32) = 109 by decide), if_neg (show ¬ (111 : Int32) = 110 by decide), if_pos rfl]
    refine ob (a := RX w M fl ar (eoo (ar 5) L p) (up (up T (4 * j) 111) (4 * j + 1) (dv (ar 5) L (.inl (p + 1))))) ?_ ?_
    · rw [m_digit H (.inl (p + 1)) _ h1, Option.bind_some]
      refine (fg_t (by rw [q1, q2, e1]; exact rx_i6 H (by omega) _ rfl)).trans ?_
      dsimp only
      rw [q1, q2, e1, nI_clamp (by omega), rx_t, heoo]
    · show some (sI _ 521 M 0 (gI _ 521 M 0 + 1)) = _
      rw [one_end H]
  · rw [heoo] at hq
    obtain ⟨p', e, a1, a2, a3, -⟩ := dig_inv hq
    cases e
    refine Or.inr (Or.inl ⟨Or.inr (Or.inl hc), ?_, ?_, a1⟩)
    · rw [up_n (by omega), up_s, hc]
    · rw [up_s, a3]
theorem one_116 (H : RH w M L j fl) {p : Nat} (h : p < L) (hc : ar 5 p = 116) (T : Nat → Int32) : OneR w M L j fl ar p T := by
  have hj := H.2.2.1
  have f1 := H.2.2.2.2
  have e1 : 4 * nI j + 1 = nI (4 * j + 1) := e4j (k := 1)
  have e2 : 4 * nI j + 2 = nI (4 * j + 2) := e4j (k := 2)
  have e3 : 4 * nI j + 3 = nI (4 * j + 3) := e4j (k := 3)
  have q1 : ∀ (r : Nat ⊕ Nat) (T : Nat → Int32), gR (RX w M fl ar r T) 508 M 0 = M + 6 := fun r T => (rx_r6 H r T).1
  have q2 : ∀ (r : Nat ⊕ Nat) (T : Nat → Int32), gI (RX w M fl ar r T) 521 M 0 = nI j := fun r T => (rx_f r T (by omega) (by omega)).trans f1
  have k6 : w.1 (M + 6) = 11 := (rx_r6 (ar := ar) H (.inl p) T).2
  have hne : ¬ ar 5 p = -1 := by rw [hc]; decide
  have h1 : vl (.inl (p + 1)) ≤ L := h
  have h2 := (pst_le (f := ar 5) (s := 35) h1).2
  have hp1 : pst (ar 5) L (.inl p) 116 = .inl (p + 1) := by
    have hf : fitN (ar 5) L 116 p = 1 := by
      rw [fit_lit (by decide), show hd (ar 5) L p = 116 from (if_pos h).trans hc, if_pos rfl]
    rw [pst_1 (by omega), hf]
  have heoo : eoo (ar 5) L p = pst (ar 5) L (.inl (p + 1)) 35 := by
    unfold eoo shN'
    rw [if_pos h, hc, show shp 116 = 5 from by decide]
    show pst (ar 5) L (pst (ar 5) L (.inl p) 116) 35 = _
    rw [hp1]
  refine ⟨up (up T (4 * j) 116) (4 * j + 1) (dv (ar 5) L (.inl (p + 1))), ?_, fun i hi => by rw [up_n (by omega), up_n (by omega)], fun q hq => ?_⟩
  · rw [one_head H h hne, hc, if_neg (show ¬ (116 : Int32) = 99 by decide), if_neg (show ¬ (116 : Int32) = 100 by decide), if_neg (show ¬ (116 : Int32) = 101 by decide), if_neg (show ¬ (116 : Int32) = 102 by decide), if_neg (show ¬ (116 : Int32) = 103 by decide), if_neg (show ¬ (116 : Int32) = 104 by decide), if_neg (show ¬ (116 : Int32) = 105 by decide), if_neg (show ¬ (116 : Int32) = 106 by decide), if_neg (show ¬ (116 : Int32) = 107 by decide), if_neg (show ¬ (116 : Int32) = 108 by decide), if_neg (show ¬ (116 : Int32) = 109 by decide), if_neg (show ¬ (116 : Int32) = 110 by decide), if_neg (show ¬ (116 : Int32) = 111 by decide), if_neg (show ¬ (116 : Int32) = 112 by decide), if_neg (show ¬ (116 : Int32) = 113 by decide), if_neg (show ¬ (116 : Int32) = 114 by decide), if_neg (show ¬ (116 : Int32) = 115 by decide), if_pos rfl]
    refine ob (a := RX w M fl ar (eoo (ar 5) L p) (up (up T (4 * j) 116) (4 * j + 1) (dv (ar 5) L (.inl (p + 1))))) ?_ ?_
    · rw [m_digit H (.inl (p + 1)) _ h1, Option.bind_some]
      refine (fg_t (by rw [q1, q2, e1]; exact rx_i6 H (by omega) _ rfl)).trans ?_
      dsimp only
      rw [q1, q2, e1, nI_clamp (by omega), rx_t, heoo]
    · show some (sI _ 521 M 0 (gI _ 521 M 0 + 1)) = _
      rw [one_end H]
  · rw [heoo] at hq
    obtain ⟨p', e, a1, a2, a3, -⟩ := dig_inv hq
    cases e
    refine Or.inr (Or.inl ⟨Or.inr (Or.inr (Or.inl hc)), ?_, ?_, a1⟩)
    · rw [up_n (by omega), up_s, hc]
    · rw [up_s, a3]
theorem one_120 (H : RH w M L j fl) {p : Nat} (h : p < L) (hc : ar 5 p = 120) (T : Nat → Int32) : OneR w M L j fl ar p T := by
  have hj := H.2.2.1
  have f1 := H.2.2.2.2
  have e1 : 4 * nI j + 1 = nI (4 * j + 1) := e4j (k := 1)
  have e2 : 4 * nI j + 2 = nI (4 * j + 2) := e4j (k := 2)
  have e3 : 4 * nI j + 3 = nI (4 * j + 3) := e4j (k := 3)
  have q1 : ∀ (r : Nat ⊕ Nat) (T : Nat → Int32), gR (RX w M fl ar r T) 508 M 0 = M + 6 := fun r T => (rx_r6 H r T).1
  have q2 : ∀ (r : Nat ⊕ Nat) (T : Nat → Int32), gI (RX w M fl ar r T) 521 M 0 = nI j := fun r T => (rx_f r T (by omega) (by omega)).trans f1
  have k6 : w.1 (M + 6) = 11 := (rx_r6 (ar := ar) H (.inl p) T).2
  have hne : ¬ ar 5 p = -1 := by rw [hc]; decide
  have h1 : vl (.inl (p + 1)) ≤ L := h
  have h2 := (pst_le (f := ar 5) (s := 35) h1).2
  have hp1 : pst (ar 5) L (.inl p) 120 = .inl (p + 1) := by
    have hf : fitN (ar 5) L 120 p = 1 := by
      rw [fit_lit (by decide), show hd (ar 5) L p = 120 from (if_pos h).trans hc, if_pos rfl]
    rw [pst_1 (by omega), hf]
  have heoo : eoo (ar 5) L p = pst (ar 5) L (.inl (p + 1)) 35 := by
    unfold eoo shN'
    rw [if_pos h, hc, show shp 120 = 12 from by decide]
    show pst (ar 5) L (pst (ar 5) L (.inl p) 120) 35 = _
    rw [hp1]
  refine ⟨up (up T (4 * j) 120) (4 * j + 1) (dv (ar 5) L (.inl (p + 1))), ?_, fun i hi => by rw [up_n (by omega), up_n (by omega)], fun q hq => ?_⟩
  · rw [one_head H h hne, hc, if_neg (show ¬ (120 : Int32) = 99 by decide), if_neg (show ¬ (120 : Int32) = 100 by decide), if_neg (show ¬ (120 : Int32) = 101 by decide), if_neg (show ¬ (120 : Int32) = 102 by decide), if_neg (show ¬ (120 : Int32) = 103 by decide), if_neg (show ¬ (120 : Int32) = 104 by decide), if_neg (show ¬ (120 : Int32) = 105 by decide), if_neg (show ¬ (120 : Int32) = 106 by decide), if_neg (show ¬ (120 : Int32) = 107 by decide), if_neg (show ¬ (120 : Int32) = 108 by decide), if_neg (show ¬ (120 : Int32) = 109 by decide), if_neg (show ¬ (120 : Int32) = 110 by decide), if_neg (show ¬ (120 : Int32) = 111 by decide), if_neg (show ¬ (120 : Int32) = 112 by decide), if_neg (show ¬ (120 : Int32) = 113 by decide), if_neg (show ¬ (120 : Int32) = 114 by decide), if_neg (show ¬ (120 : Int32) = 115 by decide), if_neg (show ¬ (120 : Int32) = 116 by decide), if_neg (show ¬ (120 : Int32) = 117 by decide), if_neg (show ¬ (120 : Int32) = 118 by decide), if_neg (show ¬ (120 : Int32) = 119 by decide), if_pos rfl]
    refine ob (a := RX w M fl ar (eoo (ar 5) L p) (up (up T (4 * j) 120) (4 * j + 1) (dv (ar 5) L (.inl (p + 1))))) ?_ ?_
    · rw [m_digit H (.inl (p + 1)) _ h1, Option.bind_some]
      refine (fg_t (by rw [q1, q2, e1]; exact rx_i6 H (by omega) _ rfl)).trans ?_
      dsimp only
      rw [q1, q2, e1, nI_clamp (by omega), rx_t, heoo]
    · show some (sI _ 521 M 0 (gI _ 521 M 0 + 1)) = _
      rw [one_end H]
  · rw [heoo] at hq
    obtain ⟨p', e, a1, a2, a3, -⟩ := dig_inv hq
    cases e
    refine Or.inr (Or.inl ⟨Or.inr (Or.inr (Or.inr hc)), ?_, ?_, a1⟩)
    · rw [up_n (by omega), up_s, hc]
    · rw [up_s, a3]
theorem one_102 (H : RH w M L j fl) {p : Nat} (h : p < L) (hc : ar 5 p = 102) (T : Nat → Int32) : OneR w M L j fl ar p T := by
  have hj := H.2.2.1
  have f1 := H.2.2.2.2
  have e1 : 4 * nI j + 1 = nI (4 * j + 1) := e4j (k := 1)
  have e2 : 4 * nI j + 2 = nI (4 * j + 2) := e4j (k := 2)
  have e3 : 4 * nI j + 3 = nI (4 * j + 3) := e4j (k := 3)
  have q1 : ∀ (r : Nat ⊕ Nat) (T : Nat → Int32), gR (RX w M fl ar r T) 508 M 0 = M + 6 := fun r T => (rx_r6 H r T).1
  have q2 : ∀ (r : Nat ⊕ Nat) (T : Nat → Int32), gI (RX w M fl ar r T) 521 M 0 = nI j := fun r T => (rx_f r T (by omega) (by omega)).trans f1
  have k6 : w.1 (M + 6) = 11 := (rx_r6 (ar := ar) H (.inl p) T).2
  have hne : ¬ ar 5 p = -1 := by rw [hc]; decide
  have h1 : vl (.inl (p + 1)) ≤ L := h
  have h2 := (pst_le (f := ar 5) (s := 35) h1).2
  have hp1 : pst (ar 5) L (.inl p) 102 = .inl (p + 1) := by
    have hf : fitN (ar 5) L 102 p = 1 := by
      rw [fit_lit (by decide), show hd (ar 5) L p = 102 from (if_pos h).trans hc, if_pos rfl]
    rw [pst_1 (by omega), hf]
  have heoo : eoo (ar 5) L p = pst (ar 5) L (pst (ar 5) L (.inl (p + 1)) 35) 104 := by
    unfold eoo shN'
    rw [if_pos h, hc, show shp 102 = 7 from by decide]
    show pst (ar 5) L (pst (ar 5) L (pst (ar 5) L (.inl p) 102) 35) 104 = _
    rw [hp1]
  refine ⟨up (up (up T (4 * j) 102) (4 * j + 1) (dv (ar 5) L (.inl (p + 1)))) (4 * j + 2) (if hd (ar 5) L (vl (pst (ar 5) L (.inl (p + 1)) 35)) = 114 then 1 else 0), ?_, fun i hi => by rw [up_n (by omega), up_n (by omega), up_n (by omega)], fun q hq => ?_⟩
  · rw [one_head H h hne, hc, if_neg (show ¬ (102 : Int32) = 99 by decide), if_neg (show ¬ (102 : Int32) = 100 by decide), if_neg (show ¬ (102 : Int32) = 101 by decide), if_pos rfl]
    rw [m_half H (.inl (p + 1)) _ h1, Option.bind_some, Option.bind_some, one_end H, heoo]
  · rw [heoo] at hq
    obtain ⟨p3, b1, b2, b3⟩ := hlf_inv hq
    obtain ⟨p2, c1, c2, c3, c4, -⟩ := dig_inv b1
    cases c1
    have hv : hd (ar 5) L (vl (pst (ar 5) L (.inl (p + 1)) 35)) = ar 5 (p + 2) := by
      rw [b1, c2]
      exact if_pos (show vl (.inl (p + 1 + 1)) < L by show p + 1 + 1 < L; omega)
    refine Or.inr (Or.inr (Or.inl ⟨Or.inl hc, ?_, ?_, ?_, by omega⟩))
    · rw [up_n (by omega), up_n (by omega), up_s, hc]
    · rw [up_n (by omega), up_s, c4]
    · rw [up_s, hv]
theorem one_103 (H : RH w M L j fl) {p : Nat} (h : p < L) (hc : ar 5 p = 103) (T : Nat → Int32) : OneR w M L j fl ar p T := by
  have hj := H.2.2.1
  have f1 := H.2.2.2.2
  have e1 : 4 * nI j + 1 = nI (4 * j + 1) := e4j (k := 1)
  have e2 : 4 * nI j + 2 = nI (4 * j + 2) := e4j (k := 2)
  have e3 : 4 * nI j + 3 = nI (4 * j + 3) := e4j (k := 3)
  have q1 : ∀ (r : Nat ⊕ Nat) (T : Nat → Int32), gR (RX w M fl ar r T) 508 M 0 = M + 6 := fun r T => (rx_r6 H r T).1
  have q2 : ∀ (r : Nat ⊕ Nat) (T : Nat → Int32), gI (RX w M fl ar r T) 521 M 0 = nI j := fun r T => (rx_f r T (by omega) (by omega)).trans f1
  have k6 : w.1 (M + 6) = 11 := (rx_r6 (ar := ar) H (.inl p) T).2
  have hne : ¬ ar 5 p = -1 := by rw [hc]; decide
  have h1 : vl (.inl (p + 1)) ≤ L := h
  have h2 := (pst_le (f := ar 5) (s := 35) h1).2
  have hp1 : pst (ar 5) L (.inl p) 103 = .inl (p + 1) := by
    have hf : fitN (ar 5) L 103 p = 1 := by
      rw [fit_lit (by decide), show hd (ar 5) L p = 103 from (if_pos h).trans hc, if_pos rfl]
    rw [pst_1 (by omega), hf]
  have heoo : eoo (ar 5) L p = pst (ar 5) L (pst (ar 5) L (.inl (p + 1)) 35) 104 := by
    unfold eoo shN'
    rw [if_pos h, hc, show shp 103 = 8 from by decide]
    show pst (ar 5) L (pst (ar 5) L (pst (ar 5) L (.inl p) 103) 35) 104 = _
    rw [hp1]
  refine ⟨up (up (up T (4 * j) 103) (4 * j + 1) (dv (ar 5) L (.inl (p + 1)))) (4 * j + 2) (if hd (ar 5) L (vl (pst (ar 5) L (.inl (p + 1)) 35)) = 114 then 1 else 0), ?_, fun i hi => by rw [up_n (by omega), up_n (by omega), up_n (by omega)], fun q hq => ?_⟩
  · rw [one_head H h hne, hc, if_neg (show ¬ (103 : Int32) = 99 by decide), if_neg (show ¬ (103 : Int32) = 100 by decide), if_neg (show ¬ (103 : Int32) = 101 by decide), if_neg (show ¬ (103 : Int32) = 102 by decide), if_pos rfl]
    rw [m_half H (.inl (p + 1)) _ h1, Option.bind_some, Option.bind_some, one_end H, heoo]
  · rw [heoo] at hq
    obtain ⟨p3, b1, b2, b3⟩ := hlf_inv hq
    obtain ⟨p2, c1, c2, c3, c4, -⟩ := dig_inv b1
    cases c1
    have hv : hd (ar 5) L (vl (pst (ar 5) L (.inl (p + 1)) 35)) = ar 5 (p + 2) := by
      rw [b1, c2]
      exact if_pos (show vl (.inl (p + 1 + 1)) < L by show p + 1 + 1 < L; omega)
    refine Or.inr (Or.inr (Or.inl ⟨Or.inr (Or.inl hc), ?_, ?_, ?_, by omega⟩))
    · rw [up_n (by omega), up_n (by omega), up_s, hc]
    · rw [up_n (by omega), up_s, c4]
    · rw [up_s, hv]
theorem one_108 (H : RH w M L j fl) {p : Nat} (h : p < L) (hc : ar 5 p = 108) (T : Nat → Int32) : OneR w M L j fl ar p T := by
  have hj := H.2.2.1
  have f1 := H.2.2.2.2
  have e1 : 4 * nI j + 1 = nI (4 * j + 1) := e4j (k := 1)
  have e2 : 4 * nI j + 2 = nI (4 * j + 2) := e4j (k := 2)
  have e3 : 4 * nI j + 3 = nI (4 * j + 3) := e4j (k := 3)
  have q1 : ∀ (r : Nat ⊕ Nat) (T : Nat → Int32), gR (RX w M fl ar r T) 508 M 0 = M + 6 := fun r T => (rx_r6 H r T).1
  have q2 : ∀ (r : Nat ⊕ Nat) (T : Nat → Int32), gI (RX w M fl ar r T) 521 M 0 = nI j := fun r T => (rx_f r T (by omega) (by omega)).trans f1
  have k6 : w.1 (M + 6) = 11 := (rx_r6 (ar := ar) H (.inl p) T).2
  have hne : ¬ ar 5 p = -1 := by rw [hc]; decide
  have h1 : vl (.inl (p + 1)) ≤ L := h
  have h2 := (pst_le (f := ar 5) (s := 35) h1).2
  have hp1 : pst (ar 5) L (.inl p) 108 = .inl (p + 1) := by
    have hf : fitN (ar 5) L 108 p = 1 := by
      rw [fit_lit (by decide), show hd (ar 5) L p = 108 from (if_pos h).trans hc, if_pos rfl]
    rw [pst_1 (by omega), hf]
  have heoo : eoo (ar 5) L p = pst (ar 5) L (pst (ar 5) L (.inl (p + 1)) 35) 104 := by
    unfold eoo shN'
    rw [if_pos h, hc, show shp 108 = 6 from by decide]
    show pst (ar 5) L (pst (ar 5) L (pst (ar 5) L (.inl p) 108) 35) 104 = _
    rw [hp1]
  refine ⟨up (up (up T (4 * j) 108) (4 * j + 1) (dv (ar 5) L (.inl (p + 1)))) (4 * j + 2) (if hd (ar 5) L (vl (pst (ar 5) L (.inl (p + 1)) 35)) = 114 then 1 else 0), ?_, fun i hi => by rw [up_n (by omega), up_n (by omega), up_n (by omega)], fun q hq => ?_⟩
  · rw [one_head H h hne, hc, if_neg (show ¬ (108 : Int32) = 99 by decide), if_neg (show ¬ (108 : Int32) = 100 by decide), if_neg (show ¬ (108 : Int32) = 101 by decide), if_neg (show ¬ (108 : Int32) = 102 by decide), if_neg (show ¬ (108 : Int32) = 103 by decide), if_neg (show ¬ (108 : Int32) = 104 by decide), if_neg (show ¬ (108 : Int32) = 105 by decide), if_neg (show ¬ (108 : Int32) = 106 by decide), if_neg (show ¬ (108 : Int32) = 107 by decide), if_pos rfl]
    rw [m_half H (.inl (p + 1)) _ h1, Option.bind_some, Option.bind_some, one_end H, heoo]
  · rw [heoo] at hq
    obtain ⟨p3, b1, b2, b3⟩ := hlf_inv hq
    obtain ⟨p2, c1, c2, c3, c4, -⟩ := dig_inv b1
    cases c1
    have hv : hd (ar 5) L (vl (pst (ar 5) L (.inl (p + 1)) 35)) = ar 5 (p + 2) := by
      rw [b1, c2]
      exact if_pos (show vl (.inl (p + 1 + 1)) < L by show p + 1 + 1 < L; omega)
    refine Or.inr (Or.inr (Or.inl ⟨Or.inr (Or.inr hc), ?_, ?_, ?_, by omega⟩))
    · rw [up_n (by omega), up_n (by omega), up_s, hc]
    · rw [up_n (by omega), up_s, c4]
    · rw [up_s, hv]
theorem one_109 (H : RH w M L j fl) {p : Nat} (h : p < L) (hc : ar 5 p = 109) (T : Nat → Int32) : OneR w M L j fl ar p T := by
  have hj := H.2.2.1
  have f1 := H.2.2.2.2
  have e1 : 4 * nI j + 1 = nI (4 * j + 1) := e4j (k := 1)
  have e2 : 4 * nI j + 2 = nI (4 * j + 2) := e4j (k := 2)
  have e3 : 4 * nI j + 3 = nI (4 * j + 3) := e4j (k := 3)
  have q1 : ∀ (r : Nat ⊕ Nat) (T : Nat → Int32), gR (RX w M fl ar r T) 508 M 0 = M + 6 := fun r T => (rx_r6 H r T).1
  have q2 : ∀ (r : Nat ⊕ Nat) (T : Nat → Int32), gI (RX w M fl ar r T) 521 M 0 = nI j := fun r T => (rx_f r T (by omega) (by omega)).trans f1
  have k6 : w.1 (M + 6) = 11 := (rx_r6 (ar := ar) H (.inl p) T).2
  have hne : ¬ ar 5 p = -1 := by rw [hc]; decide
  have h1 : vl (.inl (p + 1)) ≤ L := h
  have h2 := (pst_le (f := ar 5) (s := 35) h1).2
  have hp1 : pst (ar 5) L (.inl p) 109 = .inl (p + 1) := by
    have hf : fitN (ar 5) L 109 p = 1 := by
      rw [fit_lit (by decide), show hd (ar 5) L p = 109 from (if_pos h).trans hc, if_pos rfl]
    rw [pst_1 (by omega), hf]
  have heoo : eoo (ar 5) L p = pst (ar 5) L (pst (ar 5) L (pst (ar 5) L (.inl (p + 1)) 35) 61) 35 := by
    unfold eoo shN'
    rw [if_pos h, hc, show shp 109 = 9 from by decide]
    show pst (ar 5) L (pst (ar 5) L (pst (ar 5) L (pst (ar 5) L (.inl p) 109) 35) 61) 35 = _
    rw [hp1]
  have h3 := (pst_le (f := ar 5) (s := 61) h2).2
  refine ⟨up (up (up T (4 * j) 109) (4 * j + 1) (dv (ar 5) L (.inl (p + 1)))) (4 * j + 2) (dv (ar 5) L (pst (ar 5) L (pst (ar 5) L (.inl (p + 1)) 35) 61)), ?_, fun i hi => by rw [up_n (by omega), up_n (by omega), up_n (by omega)], fun q hq => ?_⟩
  · rw [one_head H h hne, hc, if_neg (show ¬ (109 : Int32) = 99 by decide), if_neg (show ¬ (109 : Int32) = 100 by decide), if_neg (show ¬ (109 : Int32) = 101 by decide), if_neg (show ¬ (109 : Int32) = 102 by decide), if_neg (show ¬ (109 : Int32) = 103 by decide), if_neg (show ¬ (109 : Int32) = 104 by decide), if_neg (show ¬ (109 : Int32) = 105 by decide), if_neg (show ¬ (109 : Int32) = 106 by decide), if_neg (show ¬ (109 : Int32) = 107 by decide), if_neg (show ¬ (109 : Int32) = 108 by decide), if_pos rfl]
    refine ob (a := RX w M fl ar (eoo (ar 5) L p) (up (up (up T (4 * j) 109) (4 * j + 1) (dv (ar 5) L (.inl (p + 1)))) (4 * j + 2) (dv (ar 5) L (pst (ar 5) L (pst (ar 5) L (.inl (p + 1)) 35) 61)))) ?_ ?_
    · rw [m_digit H (.inl (p + 1)) _ h1, Option.bind_some]
      refine (fg_t (by rw [q1, q2, e1]; exact rx_i6 H (by omega) _ rfl)).trans ?_
      dsimp only
      rw [q1, q2, e1, nI_clamp (by omega), rx_t]
      refine ob (m_sign H _ _ h2 (by decide)) ?_
      refine ob (m_digit H _ _ h3) ?_
      refine (fg_t (by rw [q1]; exact k6)).trans ?_
      refine (fg_t (by rw [q1, q2, e2]; exact rx_i6 H (by omega) _ rfl)).trans ?_
      dsimp only
      rw [q1, q2, e2, nI_clamp (by omega), rx_t, heoo]
    · show some (sI _ 521 M 0 (gI _ 521 M 0 + 1)) = _
      rw [one_end H]
  · rw [heoo] at hq
    obtain ⟨p3, b1, b2, b3, b4, -⟩ := dig_inv hq
    obtain ⟨p2, c1, c2, -, -⟩ := lit_inv (by decide) b1
    obtain ⟨p1, d1, d2, d3, d4, -⟩ := dig_inv c1
    cases d1
    have e9 : p3 = p + 3 := by omega
    refine Or.inr (Or.inr (Or.inr (Or.inl ⟨hc, ?_, ?_, ?_, by omega⟩)))
    · rw [up_n (by omega), up_n (by omega), up_s]
    · rw [up_n (by omega), up_s, d4]
    · rw [up_s, b4, e9]
theorem one_112 (H : RH w M L j fl) {p : Nat} (h : p < L) (hc : ar 5 p = 112) (T : Nat → Int32) : OneR w M L j fl ar p T := by
  have hj := H.2.2.1
  have f1 := H.2.2.2.2
  have e1 : 4 * nI j + 1 = nI (4 * j + 1) := e4j (k := 1)
  have e2 : 4 * nI j + 2 = nI (4 * j + 2) := e4j (k := 2)
  have e3 : 4 * nI j + 3 = nI (4 * j + 3) := e4j (k := 3)
  have q1 : ∀ (r : Nat ⊕ Nat) (T : Nat → Int32), gR (RX w M fl ar r T) 508 M 0 = M + 6 := fun r T => (rx_r6 H r T).1
  have q2 : ∀ (r : Nat ⊕ Nat) (T : Nat → Int32), gI (RX w M fl ar r T) 521 M 0 = nI j := fun r T => (rx_f r T (by omega) (by omega)).trans f1
  have k6 : w.1 (M + 6) = 11 := (rx_r6 (ar := ar) H (.inl p) T).2
  have hne : ¬ ar 5 p = -1 := by rw [hc]; decide
  have h1 : vl (.inl (p + 1)) ≤ L := h
  have h2 := (pst_le (f := ar 5) (s := 35) h1).2
  have hp1 : pst (ar 5) L (.inl p) 112 = .inl (p + 1) := by
    have hf : fitN (ar 5) L 112 p = 1 := by
      rw [fit_lit (by decide), show hd (ar 5) L p = 112 from (if_pos h).trans hc, if_pos rfl]
    rw [pst_1 (by omega), hf]
  have heoo : eoo (ar 5) L p = pst (ar 5) L (pst (ar 5) L (pst (ar 5) L (pst (ar 5) L (.inl (p + 1)) 35) 104) 61) 35 := by
    unfold eoo shN'
    rw [if_pos h, hc, show shp 112 = 3 from by decide]
    show pst (ar 5) L (pst (ar 5) L (pst (ar 5) L (pst (ar 5) L (pst (ar 5) L (.inl p) 112) 35) 104) 61) 35 = _
    rw [hp1]
  have h3 := (pst_le (f := ar 5) (s := 104) h2).2
  have h4 := (pst_le (f := ar 5) (s := 61) h3).2
  refine ⟨up (up (up (up T (4 * j) 112) (4 * j + 1) (dv (ar 5) L (.inl (p + 1)))) (4 * j + 2) (if hd (ar 5) L (vl (pst (ar 5) L (.inl (p + 1)) 35)) = 114 then 1 else 0)) (4 * j + 3) (dv (ar 5) L (pst (ar 5) L (pst (ar 5) L (pst (ar 5) L (.inl (p + 1)) 35) 104) 61)), ?_, fun i hi => by rw [up_n (by omega), up_n (by omega), up_n (by omega), up_n (by omega)], fun q hq => ?_⟩
  · rw [one_head H h hne, hc, if_neg (show ¬ (112 : Int32) = 99 by decide), if_neg (show ¬ (112 : Int32) = 100 by decide), if_neg (show ¬ (112 : Int32) = 101 by decide), if_neg (show ¬ (112 : Int32) = 102 by decide), if_neg (show ¬ (112 : Int32) = 103 by decide), if_neg (show ¬ (112 : Int32) = 104 by decide), if_neg (show ¬ (112 : Int32) = 105 by decide), if_neg (show ¬ (112 : Int32) = 106 by decide), if_neg (show ¬ (112 : Int32) = 107 by decide), if_neg (show ¬ (112 : Int32) = 108 by decide), if_neg (show ¬ (112 : Int32) = 109 by decide), if_neg (show ¬ (112 : Int32) = 110 by decide), if_neg (show ¬ (112 : Int32) = 111 by decide), if_pos rfl]
    refine ob (a := RX w M fl ar (eoo (ar 5) L p) (up (up (up (up T (4 * j) 112) (4 * j + 1) (dv (ar 5) L (.inl (p + 1)))) (4 * j + 2) (if hd (ar 5) L (vl (pst (ar 5) L (.inl (p + 1)) 35)) = 114 then 1 else 0)) (4 * j + 3) (dv (ar 5) L (pst (ar 5) L (pst (ar 5) L (pst (ar 5) L (.inl (p + 1)) 35) 104) 61)))) ?_ ?_
    · rw [m_half H (.inl (p + 1)) _ h1, Option.bind_some]
      refine ob (m_sign H _ _ h3 (by decide)) ?_
      refine ob (m_digit H _ _ h4) ?_
      refine (fg_t (by rw [q1]; exact k6)).trans ?_
      refine (fg_t (by rw [q1, q2, e3]; exact rx_i6 H (by omega) _ rfl)).trans ?_
      dsimp only
      rw [q1, q2, e3, nI_clamp (by omega), rx_t, heoo]
    · show some (sI _ 521 M 0 (gI _ 521 M 0 + 1)) = _
      rw [one_end H]
  · rw [heoo] at hq
    obtain ⟨p5, x1, x2, x3, x4, -⟩ := dig_inv hq
    obtain ⟨p4, y1, y2, -, -⟩ := lit_inv (by decide) x1
    obtain ⟨p3, b1, b2, b3⟩ := hlf_inv y1
    obtain ⟨p2, c1, c2, c3, c4, -⟩ := dig_inv b1
    cases c1
    have hv : hd (ar 5) L (vl (pst (ar 5) L (.inl (p + 1)) 35)) = ar 5 (p + 2) := by
      rw [b1, c2]
      exact if_pos (show vl (.inl (p + 1 + 1)) < L by show p + 1 + 1 < L; omega)
    have e9 : p5 = p + 4 := by omega
    refine Or.inr (Or.inr (Or.inr (Or.inr (Or.inl ⟨Or.inl hc, ?_, ?_, ?_, ?_, by omega⟩))))
    · rw [up_n (by omega), up_n (by omega), up_n (by omega), up_s, hc]
    · rw [up_n (by omega), up_n (by omega), up_s, c4]
    · rw [up_n (by omega), up_s, hv]
    · rw [up_s, x4, e9]
theorem one_119 (H : RH w M L j fl) {p : Nat} (h : p < L) (hc : ar 5 p = 119) (T : Nat → Int32) : OneR w M L j fl ar p T := by
  have hj := H.2.2.1
  have f1 := H.2.2.2.2
  have e1 : 4 * nI j + 1 = nI (4 * j + 1) := e4j (k := 1)
  have e2 : 4 * nI j + 2 = nI (4 * j + 2) := e4j (k := 2)
  have e3 : 4 * nI j + 3 = nI (4 * j + 3) := e4j (k := 3)
  have q1 : ∀ (r : Nat ⊕ Nat) (T : Nat → Int32), gR (RX w M fl ar r T) 508 M 0 = M + 6 := fun r T => (rx_r6 H r T).1
  have q2 : ∀ (r : Nat ⊕ Nat) (T : Nat → Int32), gI (RX w M fl ar r T) 521 M 0 = nI j := fun r T => (rx_f r T (by omega) (by omega)).trans f1
  have k6 : w.1 (M + 6) = 11 := (rx_r6 (ar := ar) H (.inl p) T).2
  have hne : ¬ ar 5 p = -1 := by rw [hc]; decide
  have h1 : vl (.inl (p + 1)) ≤ L := h
  have h2 := (pst_le (f := ar 5) (s := 35) h1).2
  have hp1 : pst (ar 5) L (.inl p) 119 = .inl (p + 1) := by
    have hf : fitN (ar 5) L 119 p = 1 := by
      rw [fit_lit (by decide), show hd (ar 5) L p = 119 from (if_pos h).trans hc, if_pos rfl]
    rw [pst_1 (by omega), hf]
  have heoo : eoo (ar 5) L p = pst (ar 5) L (pst (ar 5) L (pst (ar 5) L (pst (ar 5) L (.inl (p + 1)) 35) 104) 43) 35 := by
    unfold eoo shN'
    rw [if_pos h, hc, show shp 119 = 4 from by decide]
    show pst (ar 5) L (pst (ar 5) L (pst (ar 5) L (pst (ar 5) L (pst (ar 5) L (.inl p) 119) 35) 104) 43) 35 = _
    rw [hp1]
  have h3 := (pst_le (f := ar 5) (s := 104) h2).2
  have h4 := (pst_le (f := ar 5) (s := 43) h3).2
  refine ⟨up (up (up (up T (4 * j) 119) (4 * j + 1) (dv (ar 5) L (.inl (p + 1)))) (4 * j + 2) (if hd (ar 5) L (vl (pst (ar 5) L (.inl (p + 1)) 35)) = 114 then 1 else 0)) (4 * j + 3) (dv (ar 5) L (pst (ar 5) L (pst (ar 5) L (pst (ar 5) L (.inl (p + 1)) 35) 104) 43)), ?_, fun i hi => by rw [up_n (by omega), up_n (by omega), up_n (by omega), up_n (by omega)], fun q hq => ?_⟩
  · rw [one_head H h hne, hc, if_neg (show ¬ (119 : Int32) = 99 by decide), if_neg (show ¬ (119 : Int32) = 100 by decide), if_neg (show ¬ (119 : Int32) = 101 by decide), if_neg (show ¬ (119 : Int32) = 102 by decide), if_neg (show ¬ (119 : Int32) = 103 by decide), if_neg (show ¬ (119 : Int32) = 104 by decide), if_neg (show ¬ (119 : Int32) = 105 by decide), if_neg (show ¬ (119 : Int32) = 106 by decide), if_neg (show ¬ (119 : Int32) = 107 by decide), if_neg (show ¬ (119 : Int32) = 108 by decide), if_neg (show ¬ (119 : Int32) = 109 by decide), if_neg (show ¬ (119 : Int32) = 110 by decide), if_neg (show ¬ (119 : Int32) = 111 by decide), if_neg (show ¬ (119 : Int32) = 112 by decide), if_neg (show ¬ (119 : Int32) = 113 by decide), if_neg (show ¬ (119 : Int32) = 114 by decide), if_neg (show ¬ (119 : Int32) = 115 by decide), if_neg (show ¬ (119 : Int32) = 116 by decide), if_neg (show ¬ (119 : Int32) = 117 by decide), if_neg (show ¬ (119 : Int32) = 118 by decide), if_pos rfl]
    refine ob (a := RX w M fl ar (eoo (ar 5) L p) (up (up (up (up T (4 * j) 119) (4 * j + 1) (dv (ar 5) L (.inl (p + 1)))) (4 * j + 2) (if hd (ar 5) L (vl (pst (ar 5) L (.inl (p + 1)) 35)) = 114 then 1 else 0)) (4 * j + 3) (dv (ar 5) L (pst (ar 5) L (pst (ar 5) L (pst (ar 5) L (.inl (p + 1)) 35) 104) 43)))) ?_ ?_
    · rw [m_half H (.inl (p + 1)) _ h1, Option.bind_some]
      refine ob (m_sign H _ _ h3 (by decide)) ?_
      refine ob (m_digit H _ _ h4) ?_
      refine (fg_t (by rw [q1]; exact k6)).trans ?_
      refine (fg_t (by rw [q1, q2, e3]; exact rx_i6 H (by omega) _ rfl)).trans ?_
      dsimp only
      rw [q1, q2, e3, nI_clamp (by omega), rx_t, heoo]
    · show some (sI _ 521 M 0 (gI _ 521 M 0 + 1)) = _
      rw [one_end H]
  · rw [heoo] at hq
    obtain ⟨p5, x1, x2, x3, x4, -⟩ := dig_inv hq
    obtain ⟨p4, y1, y2, -, -⟩ := lit_inv (by decide) x1
    obtain ⟨p3, b1, b2, b3⟩ := hlf_inv y1
    obtain ⟨p2, c1, c2, c3, c4, -⟩ := dig_inv b1
    cases c1
    have hv : hd (ar 5) L (vl (pst (ar 5) L (.inl (p + 1)) 35)) = ar 5 (p + 2) := by
      rw [b1, c2]
      exact if_pos (show vl (.inl (p + 1 + 1)) < L by show p + 1 + 1 < L; omega)
    have e9 : p5 = p + 4 := by omega
    refine Or.inr (Or.inr (Or.inr (Or.inr (Or.inl ⟨Or.inr hc, ?_, ?_, ?_, ?_, by omega⟩))))
    · rw [up_n (by omega), up_n (by omega), up_n (by omega), up_s, hc]
    · rw [up_n (by omega), up_n (by omega), up_s, c4]
    · rw [up_n (by omega), up_s, hv]
    · rw [up_s, x4, e9]
theorem one_110 (H : RH w M L j fl) {p : Nat} (h : p < L) (hc : ar 5 p = 110) (T : Nat → Int32) : OneR w M L j fl ar p T := by
  have hj := H.2.2.1
  have f1 := H.2.2.2.2
  have e1 : 4 * nI j + 1 = nI (4 * j + 1) := e4j (k := 1)
  have e2 : 4 * nI j + 2 = nI (4 * j + 2) := e4j (k := 2)
  have e3 : 4 * nI j + 3 = nI (4 * j + 3) := e4j (k := 3)
  have q1 : ∀ (r : Nat ⊕ Nat) (T : Nat → Int32), gR (RX w M fl ar r T) 508 M 0 = M + 6 := fun r T => (rx_r6 H r T).1
  have q2 : ∀ (r : Nat ⊕ Nat) (T : Nat → Int32), gI (RX w M fl ar r T) 521 M 0 = nI j := fun r T => (rx_f r T (by omega) (by omega)).trans f1
  have k6 : w.1 (M + 6) = 11 := (rx_r6 (ar := ar) H (.inl p) T).2
  have hne : ¬ ar 5 p = -1 := by rw [hc]; decide
  have h1 : vl (.inl (p + 1)) ≤ L := h
  have h2 := (pst_le (f := ar 5) (s := 35) h1).2
  have hp1 : pst (ar 5) L (.inl p) 110 = .inl (p + 1) := by
    have hf : fitN (ar 5) L 110 p = 1 := by
      rw [fit_lit (by decide), show hd (ar 5) L p = 110 from (if_pos h).trans hc, if_pos rfl]
    rw [pst_1 (by omega), hf]
  have heoo : eoo (ar 5) L p = pst (ar 5) L (pst (ar 5) L (pst (ar 5) L (pst (ar 5) L (pst (ar 5) L (pst (ar 5) L (pst (ar 5) L (.inl (p + 1)) 64) 58) 35) 62) 35) 47) 35 := by
    unfold eoo shN'
    rw [if_pos h, hc, show shp 110 = 2 from by decide]
    show pst (ar 5) L (pst (ar 5) L (pst (ar 5) L (pst (ar 5) L (pst (ar 5) L (pst (ar 5) L (pst (ar 5) L (pst (ar 5) L (.inl p) 110) 64) 58) 35) 62) 35) 47) 35 = _
    rw [hp1]
  refine ⟨wrT (ar 5) L j (p + 1) (up T (4 * j) 110), ?_, fun i hi => ?_, fun q hq => ?_⟩
  · rw [one_head H h hne, hc, if_neg (show ¬ (110 : Int32) = 99 by decide), if_neg (show ¬ (110 : Int32) = 100 by decide), if_neg (show ¬ (110 : Int32) = 101 by decide), if_neg (show ¬ (110 : Int32) = 102 by decide), if_neg (show ¬ (110 : Int32) = 103 by decide), if_neg (show ¬ (110 : Int32) = 104 by decide), if_neg (show ¬ (110 : Int32) = 105 by decide), if_neg (show ¬ (110 : Int32) = 106 by decide), if_neg (show ¬ (110 : Int32) = 107 by decide), if_neg (show ¬ (110 : Int32) = 108 by decide), if_neg (show ¬ (110 : Int32) = 109 by decide), if_pos rfl]
    rw [m_word H h, Option.bind_some, Option.bind_some, one_end H, heoo]
  · unfold wrT
    rw [up_n (by omega), up_n (by omega), up_n (by omega), up_n (by omega), up_n (by omega)]
  · rw [heoo] at hq
    obtain ⟨p7, a1, a2, -, a4, d, d1, d2⟩ := dig_inv hq
    obtain ⟨p6, b1, b2, -, -⟩ := lit_inv (by decide) a1
    obtain ⟨p5, c1, c2, -, c4, -⟩ := dig_inv b1
    obtain ⟨p4, x1, x2, -, -⟩ := lit_inv (by decide) c1
    obtain ⟨p3, y1, y2, -, y4, -⟩ := dig_inv x1
    obtain ⟨p2, z1, z2, -, z4⟩ := lit_inv (by decide) y1
    obtain ⟨p1, v1, v2, v3⟩ := pst_inv z1
    cases v1
    rw [fit_w] at v2 v3
    have i7 : p7 = p + lf (ar 5) L (p + 1) + 6 := by omega
    have i5 : p5 = p + lf (ar 5) L (p + 1) + 4 := by omega
    have i3 : p3 = p + lf (ar 5) L (p + 1) + 2 := by omega
    have i2 : p2 = p + lf (ar 5) L (p + 1) + 1 := by omega
    refine Or.inr (Or.inr (Or.inr (Or.inr (Or.inr ⟨hc, ?_, lf (ar 5) L (p + 1), d, rfl, by omega, d1, ?_, ?_, ?_, ?_, ?_, by omega⟩))))
    · unfold wrT
      rw [up_n (by omega), up_n (by omega), up_n (by omega), up_n (by omega), up_s]
    · rw [← i7, d2]
    · unfold wrT
      rw [up_n (by omega), up_n (by omega), up_s, y4, i3]
    · unfold wrT
      rw [up_n (by omega), up_s, c4, i5]
    · unfold wrT
      rw [up_s, a4, d2]
    · rw [← i2, z4]
theorem one_bad (H : RH w M L j fl) {p : Nat} (h : p < L) (hne : ¬ ar 5 p = -1) (n99 : ¬ ar 5 p = 99) (n100 : ¬ ar 5 p = 100) (n102 : ¬ ar 5 p = 102) (n103 : ¬ ar 5 p = 103) (n108 : ¬ ar 5 p = 108) (n109 : ¬ ar 5 p = 109) (n110 : ¬ ar 5 p = 110) (n111 : ¬ ar 5 p = 111) (n112 : ¬ ar 5 p = 112) (n116 : ¬ ar 5 p = 116) (n119 : ¬ ar 5 p = 119) (n120 : ¬ ar 5 p = 120) (T : Nat → Int32) : OneR w M L j fl ar p T := by
  have heoo : eoo (ar 5) L p = .inr p := by
    unfold eoo shN' shp
    rw [if_pos h]
    simp only [if_neg n99, if_neg n100, if_neg n102, if_neg n103, if_neg n108, if_neg n109, if_neg n110, if_neg n111, if_neg n112, if_neg n116, if_neg n119, if_neg n120, ite_self]
    refine pst_0 ?_
    unfold fitN
    rw [if_pos h, if_pos rfl]
  refine ⟨up T (4 * j) (ar 5 p), ?_, fun i hi => up_n (by omega), fun q hq => by rw [heoo] at hq; cases hq⟩
  rw [one_head H h hne]
  simp only [if_neg n99, if_neg n100, if_neg n102, if_neg n103, if_neg n108, if_neg n109, if_neg n110, if_neg n111, if_neg n112, if_neg n116, if_neg n119, if_neg n120, if_neg hne, ite_self]
  rw [Option.bind_some, rx_s522 (.inl (p + 1)) _ 1 (.inr (p + 1)) rfl rfl, rx_at, show nI (vl (.inr (p + 1))) - 1 = nI p from nI_pred p, rx_s519 (.inr (p + 1)) _ p (.inr p) rfl rfl, one_end H, heoo]
theorem m_one (H : RH w M L j fl) {p : Nat} (hp : p ≤ L) (hf : ∀ i, i < L → ¬ ar 5 i = -1) (T : Nat → Int32) : OneR w M L j fl ar p T := by
  by_cases h : p < L
  · by_cases n99 : ar 5 p = 99
    · exact one_99 H h n99 T
    by_cases n100 : ar 5 p = 100
    · exact one_100 H h n100 T
    by_cases n102 : ar 5 p = 102
    · exact one_102 H h n102 T
    by_cases n103 : ar 5 p = 103
    · exact one_103 H h n103 T
    by_cases n108 : ar 5 p = 108
    · exact one_108 H h n108 T
    by_cases n109 : ar 5 p = 109
    · exact one_109 H h n109 T
    by_cases n110 : ar 5 p = 110
    · exact one_110 H h n110 T
    by_cases n111 : ar 5 p = 111
    · exact one_111 H h n111 T
    by_cases n112 : ar 5 p = 112
    · exact one_112 H h n112 T
    by_cases n116 : ar 5 p = 116
    · exact one_116 H h n116 T
    by_cases n119 : ar 5 p = 119
    · exact one_119 H h n119 T
    by_cases n120 : ar 5 p = 120
    · exact one_120 H h n120 T
    exact one_bad H h (hf p h) n99 n100 n102 n103 n108 n109 n110 n111 n112 n116 n119 n120 T
  · exact one_none H hp h T
end MON
