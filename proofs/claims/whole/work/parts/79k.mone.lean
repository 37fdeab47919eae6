/-! The reference reads one order -/
theorem fit_w (f : Nat → Int32) (L p : Nat) : fitN f L 64 p = lf f L p := by
  unfold fitN
  by_cases h : p < L
  · rw [if_pos h, if_neg (by decide), if_neg (by decide), if_pos rfl]
  · rw [if_neg h]
    obtain ⟨-, h2, -⟩ := lf_s f L p
    by_cases z : lf f L p = 0
    · exact z.symm
    · have := (h2 0 (by omega)).1
      omega
theorem let_hd {f : Nat → Int32} {L p : Nat} : (isLet (hd f L p) = 0) ↔ ¬ (p < L ∧ isLet (f p) = 1) := by
  unfold hd
  by_cases h : p < L
  · rw [if_pos h]
    constructor
    · intro z y
      rw [z] at y
      exact absurd y.2 (by decide)
    · intro z
      exact (isLet_01 _).resolve_right (fun y => z ⟨h, y⟩)
  · rw [if_neg h]
    exact ⟨fun _ y => h y.1, fun _ => by decide⟩
section MWO
variable {w : FW} {M L j : Nat} {fl : Nat → Int32} {ar : Nat → Nat → Int32}
theorem vl_l (p : Nat) : vl (.inl p) = p := rfl
theorem vl_r (p : Nat) : vl (.inr p) = p := rfl
theorem rx_r6 (H : RH w M L j fl) (r : Nat ⊕ Nat) (T : Nat → Int32) : gR (RX w M fl ar r T) 508 M 0 = M + 6 ∧ (RX w M fl ar r T).1 (M + 6) = 11 := by
  obtain ⟨zk0, zk1, zk2, zk3, zk4, zk5, zk6, zk7, zk8, zl1, zl2, zl3, zl4, zl5, zl6, zl7, zl8, zr1, zr2, zr3, zr4, zr5, zr6, zr7, zr8⟩ := id H.1
  exact ⟨zr6, zk6⟩
theorem rx_i6 (H : RH w M L j fl) {k : Nat} (hk : k < 4) (N : Nat) (hN : N = w.2.1 (M + 6)) : ¬ (nI (4 * j + k) < 0 ∨ N ≤ (nI (4 * j + k)).toNatClampNeg) := by
  obtain ⟨zk0, zk1, zk2, zk3, zk4, zk5, zk6, zk7, zk8, zl1, zl2, zl3, zl4, zl5, zl6, zl7, zl8, zr1, zr2, zr3, zr4, zr5, zr6, zr7, zr8⟩ := id H.1
  rw [hN, zl6]
  have := H.2.2.1
  exact nI_in (by omega) (by decide)
theorem m_wordL (H : RH w M L j fl) {p : Nat} (hp : p ≤ L) (T : Nat → Int32) : fLoop (σ := Int32 × FW) (ρ := Int32 × FW) (fun s4 => (if 6 ≤ s4.1 then some (.inr (s4.1, s4.2)) else (F_X5_here M s4.2).bind (fun r14 => (F_X5_isLetter r14 s4.2).bind (fun r17 => (if r17 = 0 then some (.inr (s4.1, s4.2)) else some (.inl ((s4.1 + 1), (sI s4.2 519 M 0 ((gI s4.2 519 M 0) + 1))))))))) (0, RX w M fl ar (.inl p) T) = some (nI (lf (ar 5) L p), RX w M fl ar (.inl (p + lf (ar 5) L p)) T) := by
  have hL := H.2.1
  have h := fLoop_find (σ := Int32 × FW) (ρ := Int32 × FW) (f := (fun s4 => (if 6 ≤ s4.1 then some (.inr (s4.1, s4.2)) else (F_X5_here M s4.2).bind (fun r14 => (F_X5_isLetter r14 s4.2).bind (fun r17 => (if r17 = 0 then some (.inr (s4.1, s4.2)) else some (.inl ((s4.1 + 1), (sI s4.2 519 M 0 ((gI s4.2 519 M 0) + 1)))))))))) (fun k => (nI k, RX w M fl ar (.inl (p + k)) T)) 6 (fun k => ¬ (p + k < L ∧ isLet (ar 5 (p + k)) = 1)) (r := (nI 6, RX w M fl ar (.inl (p + 6)) T)) (q := fun k => (nI k, RX w M fl ar (.inl (p + k)) T)) (fun k hk hP => ?_) (fun k hk hP => ?_) ?_
  · refine h.trans ?_
    unfold lf
    rcases find_r (P := fun k => ¬ (p + k < L ∧ isLet (ar 5 (p + k)) = 1)) 6 with ⟨k, e, -⟩ | ⟨e, -⟩
    · rw [e]
    · rw [e]
  · have c1 : ¬ (6 : Int32) ≤ nI k := nI_ge (b := 6) hk (by decide)
    have c2 : ¬ isLet (hd (ar 5) L (p + k)) = 0 := fun z => hP (let_hd.mp z)
    have hh := m_here9 (ar := ar) H (.inl (p + k)) T (by show p + k < 1000; omega)
    dsimp only
    rw [if_neg c1, hh, Option.bind_some, m_isLetter, Option.bind_some]
    show (if isLet (hd (ar 5) L (p + k)) = 0 then _ else _) = _
    rw [if_neg c2, rx_at, nI_1, nI_1, rx_s519 (.inl (p + k)) _ (vl (.inl (p + k)) + 1) (.inl (p + (k + 1))) rfl rfl]
  · have c1 : ¬ (6 : Int32) ≤ nI k := nI_ge (b := 6) hk (by decide)
    have c2 : isLet (hd (ar 5) L (p + k)) = 0 := let_hd.mpr hP
    have hh := m_here9 (ar := ar) H (.inl (p + k)) T (by show p + k < 1000; omega)
    dsimp only
    rw [if_neg c1, hh, Option.bind_some, m_isLetter, Option.bind_some]
    show (if isLet (hd (ar 5) L (p + k)) = 0 then _ else _) = _
    rw [if_pos c2]
  · have c1 : (6 : Int32) ≤ nI 6 := by decide
    dsimp only
    rw [if_pos c1]
/-- told of a word -/
def wrT (f : Nat → Int32) (L j p : Nat) (T : Nat → Int32) : Nat → Int32 :=
  up (up (up (up T (4 * j + 3) (nI p)) (4 * j + 1) (dv f L (pst f L (pst f L (.inl p) 64) 58))) (4 * j + 2) (dv f L (pst f L (pst f L (pst f L (pst f L (.inl p) 64) 58) 35) 62))) (4 * j + 3) (nI p + 100 * dv f L (pst f L (pst f L (pst f L (pst f L (pst f L (pst f L (.inl p) 64) 58) 35) 62) 35) 47))
theorem m_word (H : RH w M L j fl) {p : Nat} (hp : p ≤ L) (T : Nat → Int32) : F_X5_readsWord M (RX w M fl ar (.inl p) T) = some (RX w M fl ar (pst (ar 5) L (pst (ar 5) L (pst (ar 5) L (pst (ar 5) L (pst (ar 5) L (pst (ar 5) L (pst (ar 5) L (.inl p) 64) 58) 35) 62) 35) 47) 35) (wrT (ar 5) L j p T)) := by
  have f1 := H.2.2.2.2
  have e1 : 4 * nI j + 1 = nI (4 * j + 1) := e4j (k := 1)
  have e2 : 4 * nI j + 2 = nI (4 * j + 2) := e4j (k := 2)
  have e3 : 4 * nI j + 3 = nI (4 * j + 3) := e4j (k := 3)
  have hL := H.2.1
  have hj := H.2.2.1
  have h1 := (pst_le (f := ar 5) (s := 64) (r := .inl p) hp).2
  have h2 := (pst_le (f := ar 5) (s := 58) h1).2
  have h3 := (pst_le (f := ar 5) (s := 35) h2).2
  have h4 := (pst_le (f := ar 5) (s := 62) h3).2
  have h5 := (pst_le (f := ar 5) (s := 35) h4).2
  have h6 := (pst_le (f := ar 5) (s := 47) h5).2
  have q1 : ∀ (r : Nat ⊕ Nat) (T : Nat → Int32), gR (RX w M fl ar r T) 508 M 0 = M + 6 := fun r T => (rx_r6 H r T).1
  have q2 : ∀ (r : Nat ⊕ Nat) (T : Nat → Int32), gI (RX w M fl ar r T) 521 M 0 = nI j := fun r T => (rx_f r T (by omega) (by omega)).trans f1
  have k6 : w.1 (M + 6) = 11 := (rx_r6 (ar := ar) H (.inl p) T).2
  unfold F_X5_readsWord
  refine (fg_t H.1.1).trans ?_
  refine (fg_t (by rw [q1]; exact k6)).trans ?_
  refine (fg_t (by rw [q1, q2, e3]; exact rx_i6 H (by omega) _ rfl)).trans ?_
  rw [q1, q2, e3, nI_clamp (by omega), rx_at, rx_t]
  refine ob (m_wordL H hp _) ?_
  dsimp only
  generalize hR1 : pst (ar 5) L (.inl p) 64 = r1 at *
  have hx : ∃ x21, ((if nI (lf (ar 5) L p) = 0 then some 1 else some 0) : Option Int32) = some x21 ∧ (x21 = 0 ∨ x21 = 1) ∧ sI (RX w M fl ar (.inl (p + lf (ar 5) L p)) (up T (4 * j + 3) (nI (vl (.inl p))))) 522 M 0 x21 = RX w M fl ar r1 (up T (4 * j + 3) (nI p)) := by
    have hw := fit_w (ar 5) L p
    by_cases z : lf (ar 5) L p = 0
    · refine ⟨1, by rw [z]; rfl, Or.inr rfl, ?_⟩
      rw [← hR1, pst_0 (by rw [hw]; exact z), z]
      exact rx_s522 (.inl (p + 0)) _ 1 (.inr p) rfl rfl
    · have h6 := (lf_s (ar 5) L p).1
      refine ⟨0, if_neg (fun y => z ((nI_eq (a := lf (ar 5) L p) (b := 0) (by omega) (by decide)).mp y)), Or.inl rfl, ?_⟩
      rw [← hR1, pst_1 (by rw [hw]; exact z), hw]
      exact rx_s522 (.inl (p + lf (ar 5) L p)) _ 0 (.inl (p + lf (ar 5) L p)) rfl rfl
  obtain ⟨x21, ex, hx1, hx2⟩ := hx
  rw [ex, Option.bind_some]
  refine (fg_t hx1).trans ?_
  rw [hx2]
  refine ob (m_sign H r1 _ h1 (by decide)) ?_
  refine ob (m_digit H _ _ h2) ?_
  refine (fg_t (by rw [q1]; exact k6)).trans ?_
  refine (fg_t (by rw [q1, q2, e1]; exact rx_i6 H (by omega) _ rfl)).trans ?_
  dsimp only
  rw [q1, q2, e1, nI_clamp (by omega), rx_t]
  refine ob (m_sign H _ _ h3 (by decide)) ?_
  refine ob (m_digit H _ _ h4) ?_
  refine (fg_t (by rw [q1]; exact k6)).trans ?_
  refine (fg_t (by rw [q1, q2, e2]; exact rx_i6 H (by omega) _ rfl)).trans ?_
  dsimp only
  rw [q1, q2, e2, nI_clamp (by omega), rx_t]
  refine ob (m_sign H _ _ h5 (by decide)) ?_
  refine ob (m_digit H _ _ h6) ?_
  dsimp only
  refine (fg_t (by rw [q1]; exact k6)).trans ?_
  refine (fg_t (by rw [q1, q2, e3]; exact rx_i6 H (by omega) _ rfl)).trans ?_
  rw [q1, q2, e3, nI_clamp (by omega), rx_6, rx_t, up_n (by omega), up_n (by omega), up_s]
  unfold wrT
  rw [hR1]
end MWO
theorem pst_inv {f : Nat → Int32} {L q : Nat} {r : Nat ⊕ Nat} {s : Int32} (h : pst f L r s = .inl q) : ∃ p, r = .inl p ∧ ¬ fitN f L s p = 0 ∧ q = p + fitN f L s p := by
  cases r with
  | inl p =>
    by_cases c : fitN f L s p = 0
    · rw [pst_0 c] at h
      cases h
    · rw [pst_1 c] at h
      injection h with h'
      exact ⟨p, rfl, c, h'.symm⟩
  | inr p => cases h
theorem lit_inv {f : Nat → Int32} {L q : Nat} {r : Nat ⊕ Nat} {s : Int32} (hs : ¬ s = 33 ∧ ¬ s = 35 ∧ ¬ s = 64 ∧ ¬ s = 104 ∧ ¬ (-1) = s) (h : pst f L r s = .inl q) : ∃ p, r = .inl p ∧ q = p + 1 ∧ p < L ∧ f p = s := by
  obtain ⟨p, e, c, hq⟩ := pst_inv h
  rw [fit_lit hs] at c hq
  by_cases d : hd f L p = s
  · rw [if_pos d] at hq
    unfold hd at d
    by_cases z : p < L
    · rw [if_pos z] at d
      exact ⟨p, e, hq, z, d⟩
    · rw [if_neg z] at d
      exact absurd d hs.2.2.2.2
  · rw [if_neg d] at c
    exact absurd rfl c
theorem dig_inv {f : Nat → Int32} {L q : Nat} {r : Nat ⊕ Nat} (h : pst f L r 35 = .inl q) : ∃ p, r = .inl p ∧ q = p + 1 ∧ p < L ∧ dv f L r = f p - 48 ∧ ∃ d, d < 10 ∧ f p - 48 = nI d := by
  obtain ⟨p, e, c, hq⟩ := pst_inv h
  have c0 := c
  have hp := (fit_le f L 35 p).resolve_left c
  rw [fit_dig] at c hq
  by_cases d : inn (hd f L p) 48 57 = 0
  · rw [if_pos d] at c
    exact absurd rfl c
  · rw [if_neg d] at hq
    have hpL : p < L := by omega
    obtain ⟨j, j1, j2, j3⟩ := inn_1 (a := 48) (b := 57) (by omega) (by omega) d
    unfold hd at j3
    rw [if_pos hpL] at j3
    refine ⟨p, e, hq, hpL, ?_, j - 48, by omega, ?_⟩
    · rw [e]
      exact if_neg c0
    · rw [j3, show (48 : Int32) = nI 48 from rfl]
      exact nI_sub j1 (by omega)
theorem hlf_inv {f : Nat → Int32} {L q : Nat} {r : Nat ⊕ Nat} (h : pst f L r 104 = .inl q) : ∃ p, r = .inl p ∧ q = p + 1 ∧ p < L := by
  obtain ⟨p, e, c, hq⟩ := pst_inv h
  have hp := (fit_le f L 104 p).resolve_left c
  rw [fit_h] at c hq
  have h1 : fitN f L 104 p = 1 := by
    rw [fit_h]
    split
    · rfl
    · split
      · rfl
      · rename_i a b
        rw [if_neg a, if_neg b] at c
        exact absurd rfl c
  rw [fit_h] at h1
  rw [h1] at hq
  exact ⟨p, e, hq, by rw [fit_h] at hp; omega⟩
/-- what is told of the order from p to q -/
def OG (f : Nat → Int32) (L p q : Nat) (T : Nat → Int32) (i : Nat) : Prop :=
  (f p = 100 ∧ T (4 * i) = 100 ∧ q = p + 1) ∨
  ((f p = 99 ∨ f p = 111 ∨ f p = 116 ∨ f p = 120) ∧ T (4 * i) = f p ∧ T (4 * i + 1) = f (p + 1) - 48 ∧ q = p + 2) ∨
  ((f p = 102 ∨ f p = 103 ∨ f p = 108) ∧ T (4 * i) = f p ∧ T (4 * i + 1) = f (p + 1) - 48 ∧ T (4 * i + 2) = (if f (p + 2) = 114 then 1 else 0) ∧ q = p + 3) ∨
  (f p = 109 ∧ T (4 * i) = 109 ∧ T (4 * i + 1) = f (p + 1) - 48 ∧ T (4 * i + 2) = f (p + 3) - 48 ∧ q = p + 4) ∨
  ((f p = 112 ∨ f p = 119) ∧ T (4 * i) = f p ∧ T (4 * i + 1) = f (p + 1) - 48 ∧ T (4 * i + 2) = (if f (p + 2) = 114 then 1 else 0) ∧ T (4 * i + 3) = f (p + 4) - 48 ∧ q = p + 5) ∨
  (f p = 110 ∧ T (4 * i) = 110 ∧ ∃ g d, g = lf f L (p + 1) ∧ 1 ≤ g ∧ d < 10 ∧ f (p + g + 6) - 48 = nI d ∧ T (4 * i + 1) = f (p + g + 2) - 48 ∧ T (4 * i + 2) = f (p + g + 4) - 48 ∧ T (4 * i + 3) = nI (p + 1) + 100 * nI d ∧ f (p + g + 1) = 58 ∧ q = p + g + 7)
theorem OG.to {f : Nat → Int32} {L p q i : Nat} {T T' : Nat → Int32} (h : OG f L p q T i) (e : ∀ k, k < 4 → T' (4 * i + k) = T (4 * i + k)) : OG f L p q T' i := by
  have e0 := e 0 (by omega)
  have e1 := e 1 (by omega)
  have e2 := e 2 (by omega)
  have e3 := e 3 (by omega)
  rw [Nat.add_zero] at e0
  unfold OG
  rw [e0, e1, e2, e3]
  exact h
section MONE
variable {w : FW} {M L j : Nat} {fl : Nat → Int32} {ar : Nat → Nat → Int32}
theorem one_head (H : RH w M L j fl) {p : Nat} (hp : p < L) (hne : ¬ ar 5 p = -1) (T : Nat → Int32) : F_X5_readsOne M (RX w M fl ar (.inl p) T) = Option.bind ((if (ar 5 p) = 99 then (F_X5_digit M (RX w M fl ar (.inl (p + 1)) (up T (4 * j) (ar 5 p)))).bind (fun r16 => fg (¬ (((4 * (gI (RX w M fl ar (.inl (p + 1)) (up T (4 * j) (ar 5 p))) 521 M 0)) + 1) < 0 ∨ (RX w M fl ar (.inl p) T).2.1 (gR (RX w M fl ar (.inl p) T) 508 M 0) ≤ Int32.toNatClampNeg ((4 * (gI (RX w M fl ar (.inl (p + 1)) (up T (4 * j) (ar 5 p))) 521 M 0)) + 1))) inferInstance (some (sI r16.2 601 (gR (RX w M fl ar (.inl (p + 1)) (up T (4 * j) (ar 5 p))) 508 M 0) (Int32.toNatClampNeg ((4 * (gI (RX w M fl ar (.inl (p + 1)) (up T (4 * j) (ar 5 p))) 521 M 0)) + 1)) r16.1))) else (if (ar 5 p) = 100 then some (RX w M fl ar (.inl (p + 1)) (up T (4 * j) (ar 5 p))) else (if (ar 5 p) = 101 then (if (ar 5 p) = (-1) then some (sI (sI (RX w M fl ar (.inl (p + 1)) (up T (4 * j) (ar 5 p))) 522 M 0 1) 519 M 0 ((gI (sI (RX w M fl ar (.inl (p + 1)) (up T (4 * j) (ar 5 p))) 522 M 0 1) 519 M 0) - 0)) else some (sI (sI (RX w M fl ar (.inl (p + 1)) (up T (4 * j) (ar 5 p))) 522 M 0 1) 519 M 0 ((gI (sI (RX w M fl ar (.inl (p + 1)) (up T (4 * j) (ar 5 p))) 522 M 0 1) 519 M 0) - 1))) else (if (ar 5 p) = 102 then (F_X5_readsHalf M (RX w M fl ar (.inl (p + 1)) (up T (4 * j) (ar 5 p)))).bind (fun r24 => some r24) else (if (ar 5 p) = 103 then (F_X5_readsHalf M (RX w M fl ar (.inl (p + 1)) (up T (4 * j) (ar 5 p)))).bind (fun r28 => some r28) else (if (ar 5 p) = 104 then (if (ar 5 p) = (-1) then some (sI (sI (RX w M fl ar (.inl (p + 1)) (up T (4 * j) (ar 5 p))) 522 M 0 1) 519 M 0 ((gI (sI (RX w M fl ar (.inl (p + 1)) (up T (4 * j) (ar 5 p))) 522 M 0 1) 519 M 0) - 0)) else some (sI (sI (RX w M fl ar (.inl (p + 1)) (up T (4 * j) (ar 5 p))) 522 M 0 1) 519 M 0 ((gI (sI (RX w M fl ar (.inl (p + 1)) (up T (4 * j) (ar 5 p))) 522 M 0 1) 519 M 0) - 1))) else (if (ar 5 p) = 105 then (if (ar 5 p) = (-1) then some (sI (sI (RX w M fl ar (.inl (p + 1)) (up T (4 * j) (ar 5 p))) 522 M 0 1) 519 M 0 ((gI (sI (RX w M fl ar (.inl (p + 1)) (up T (4 * j) (ar 5 p))) 522 M 0 1) 519 M 0) - 0)) else some (sI (sI (RX w M fl ar (.inl (p + 1)) (up T (4 * j) (ar 5 p))) 522 M 0 1) 519 M 0 ((gI (sI (RX w M fl ar (.inl (p + 1)) (up T (4 * j) (ar 5 p))) 522 M 0 1) 519 M 0) - 1))) else (if (ar 5 p) = 106 then (if (ar 5 p) = (-1) then some (sI (sI (RX w M fl ar (.inl (p + 1)) (up T (4 * j) (ar 5 p))) 522 M 0 1) 519 M 0 ((gI (sI (RX w M fl ar (.inl (p + 1)) (up T (4 * j) (ar 5 p))) 522 M 0 1) 519 M 0) - 0)) else some (sI (sI (RX w M fl ar (.inl (p + 1)) (up T (4 * j) (ar 5 p))) 522 M 0 1) 519 M 0 ((gI (sI (RX w M fl ar (.inl (p + 1)) (up T (4 * j) (ar 5 p))) 522 M 0 1) 519 M 0) - 1))) else (if (ar 5 p) = 107 then (if (ar 5 p) = (-1) then some (sI (sI (RX w M fl ar (.inl (p + 1)) (up T (4 * j) (ar 5 p))) 522 M 0 1) 519 M 0 ((gI (sI (RX w M fl ar (.inl (p + 1)) (up T (4 * j) (ar 5 p))) 522 M 0 1) 519 M 0) - 0)) else some (sI (sI (RX w M fl ar (.inl (p + 1)) (up T (4 * j) (ar 5 p))) 522 M 0 1) 519 M 0 ((gI (sI (RX w M fl ar (.inl (p + 1)) (up T (4 * j) (ar 5 p))) 522 M 0 1) 519 M 0) - 1))) else (if (ar 5 p) = 108 then (F_X5_readsHalf M (RX w M fl ar (.inl (p + 1)) (up T (4 * j) (ar 5 p)))).bind (fun r40 => some r40) else (if (ar 5 p) = 109 then (F_X5_digit M (RX w M fl ar (.inl (p + 1)) (up T (4 * j) (ar 5 p)))).bind (fun r44 => fg (¬ (((4 * (gI (RX w M fl ar (.inl (p + 1)) (up T (4 * j) (ar 5 p))) 521 M 0)) + 1) < 0 ∨ (RX w M fl ar (.inl p) T).2.1 (gR (RX w M fl ar (.inl p) T) 508 M 0) ≤ Int32.toNatClampNeg ((4 * (gI (RX w M fl ar (.inl (p + 1)) (up T (4 * j) (ar 5 p))) 521 M 0)) + 1))) inferInstance ((F_X5_sign M 61 (sI r44.2 601 (gR (RX w M fl ar (.inl (p + 1)) (up T (4 * j) (ar 5 p))) 508 M 0) (Int32.toNatClampNeg ((4 * (gI (RX w M fl ar (.inl (p + 1)) (up T (4 * j) (ar 5 p))) 521 M 0)) + 1)) r44.1)).bind (fun r48 => (F_X5_digit M r48).bind (fun r51 => fg ((RX w M fl ar (.inl p) T).1 (gR r48 508 M 0) = 11) inferInstance (fg (¬ (((4 * (gI r48 521 M 0)) + 2) < 0 ∨ (RX w M fl ar (.inl p) T).2.1 (gR r48 508 M 0) ≤ Int32.toNatClampNeg ((4 * (gI r48 521 M 0)) + 2))) inferInstance (some (sI r51.2 601 (gR r48 508 M 0) (Int32.toNatClampNeg ((4 * (gI r48 521 M 0)) + 2)) r51.1))))))) else (if (ar 5 p) = 110 then (F_X5_readsWord M (RX w M fl ar (.inl (p + 1)) (up T (4 * j) (ar 5 p)))).bind (fun r57 => some r57) else (if (ar 5 p) = 111 then (F_X5_digit M (RX w M fl ar (.inl (p + 1)) (up T (4 * j) (ar 5 p)))).bind (fun r61 => fg (¬ (((4 * (gI (RX w M fl ar (.inl (p + 1)) (up T (4 * j) (ar 5 p))) 521 M 0)) + 1) < 0 ∨ (RX w M fl ar (.inl p) T).2.1 (gR (RX w M fl ar (.inl p) T) 508 M 0) ≤ Int32.toNatClampNeg ((4 * (gI (RX w M fl ar (.inl (p + 1)) (up T (4 * j) (ar 5 p))) 521 M 0)) + 1))) inferInstance (some (sI r61.2 601 (gR (RX w M fl ar (.inl (p + 1)) (up T (4 * j) (ar 5 p))) 508 M 0) (Int32.toNatClampNeg ((4 * (gI (RX w M fl ar (.inl (p + 1)) (up T (4 * j) (ar 5 p))) 521 M 0)) + 1)) r61.1))) else (if (ar 5 p) = 112 then (F_X5_readsHalf M (RX w M fl ar (.inl (p + 1)) (up T (4 * j) (ar 5 p)))).bind (fun r66 => (F_X5_sign M 61 r66).bind (fun r69 => (F_X5_digit M r69).bind (fun r72 => fg ((RX w M fl ar (.inl p) T).1 (gR r69 508 M 0) = 11) inferInstance (fg (¬ (((4 * (gI r69 521 M 0)) + 3) < 0 ∨ (RX w M fl ar (.inl p) T).2.1 (gR r69 508 M 0) ≤ Int32.toNatClampNeg ((4 * (gI r69 521 M 0)) + 3))) inferInstance (some (sI r72.2 601 (gR r69 508 M 0) (Int32.toNatClampNeg ((4 * (gI r69 521 M 0)) + 3)) r72.1)))))) else (if (ar 5 p) = 113 then (if (ar 5 p) = (-1) then some (sI (sI (RX w M fl ar (.inl (p + 1)) (up T (4 * j) (ar 5 p))) 522 M 0 1) 519 M 0 ((gI (sI (RX w M fl ar (.inl (p + 1)) (up T (4 * j) (ar 5 p))) 522 M 0 1) 519 M 0) - 0)) else some (sI (sI (RX w M fl ar (.inl (p + 1)) (up T (4 * j) (ar 5 p))) 522 M 0 1) 519 M 0 ((gI (sI (RX w M fl ar (.inl (p + 1)) (up T (4 * j) (ar 5 p))) 522 M 0 1) 519 M 0) - 1))) else (if (ar 5 p) = 114 then (if (ar 5 p) = (-1) then some (sI (sI (RX w M fl ar (.inl (p + 1)) (up T (4 * j) (ar 5 p))) 522 M 0 1) 519 M 0 ((gI (sI (RX w M fl ar (.inl (p + 1)) (up T (4 * j) (ar 5 p))) 522 M 0 1) 519 M 0) - 0)) else some (sI (sI (RX w M fl ar (.inl (p + 1)) (up T (4 * j) (ar 5 p))) 522 M 0 1) 519 M 0 ((gI (sI (RX w M fl ar (.inl (p + 1)) (up T (4 * j) (ar 5 p))) 522 M 0 1) 519 M 0) - 1))) else (if (ar 5 p) = 115 then (if (ar 5 p) = (-1) then some (sI (sI (RX w M fl ar (.inl (p + 1)) (up T (4 * j) (ar 5 p))) 522 M 0 1) 519 M 0 ((gI (sI (RX w M fl ar (.inl (p + 1)) (up T (4 * j) (ar 5 p))) 522 M 0 1) 519 M 0) - 0)) else some (sI (sI (RX w M fl ar (.inl (p + 1)) (up T (4 * j) (ar 5 p))) 522 M 0 1) 519 M 0 ((gI (sI (RX w M fl ar (.inl (p + 1)) (up T (4 * j) (ar 5 p))) 522 M 0 1) 519 M 0) - 1))) else (if (ar 5 p) = 116 then (F_X5_digit M (RX w M fl ar (.inl (p + 1)) (up T (4 * j) (ar 5 p)))).bind (fun r84 => fg (¬ (((4 * (gI (RX w M fl ar (.inl (p + 1)) (up T (4 * j) (ar 5 p))) 521 M 0)) + 1) < 0 ∨ (RX w M fl ar (.inl p) T).2.1 (gR (RX w M fl ar (.inl p) T) 508 M 0) ≤ Int32.toNatClampNeg ((4 * (gI (RX w M fl ar (.inl (p + 1)) (up T (4 * j) (ar 5 p))) 521 M 0)) + 1))) inferInstance (some (sI r84.2 601 (gR (RX w M fl ar (.inl (p + 1)) (up T (4 * j) (ar 5 p))) 508 M 0) (Int32.toNatClampNeg ((4 * (gI (RX w M fl ar (.inl (p + 1)) (up T (4 * j) (ar 5 p))) 521 M 0)) + 1)) r84.1))) else (if (ar 5 p) = 117 then (if (ar 5 p) = (-1) then some (sI (sI (RX w M fl ar (.inl (p + 1)) (up T (4 * j) (ar 5 p))) 522 M 0 1) 519 M 0 ((gI (sI (RX w M fl ar (.inl (p + 1)) (up T (4 * j) (ar 5 p))) 522 M 0 1) 519 M 0) - 0)) else some (sI (sI (RX w M fl ar (.inl (p + 1)) (up T (4 * j) (ar 5 p))) 522 M 0 1) 519 M 0 ((gI (sI (RX w M fl ar (.inl (p + 1)) (up T (4 * j) (ar 5 p))) 522 M 0 1) 519 M 0) - 1))) else (if (ar 5 p) = 118 then (if (ar 5 p) = (-1) then some (sI (sI (RX w M fl ar (.inl (p + 1)) (up T (4 * j) (ar 5 p))) 522 M 0 1) 519 M 0 ((gI (sI (RX w M fl ar (.inl (p + 1)) (up T (4 * j) (ar 5 p))) 522 M 0 1) 519 M 0) - 0)) else some (sI (sI (RX w M fl ar (.inl (p + 1)) (up T (4 * j) (ar 5 p))) 522 M 0 1) 519 M 0 ((gI (sI (RX w M fl ar (.inl (p + 1)) (up T (4 * j) (ar 5 p))) 522 M 0 1) 519 M 0) - 1))) else (if (ar 5 p) = 119 then (F_X5_readsHalf M (RX w M fl ar (.inl (p + 1)) (up T (4 * j) (ar 5 p)))).bind (fun r93 => (F_X5_sign M 43 r93).bind (fun r96 => (F_X5_digit M r96).bind (fun r99 => fg ((RX w M fl ar (.inl p) T).1 (gR r96 508 M 0) = 11) inferInstance (fg (¬ (((4 * (gI r96 521 M 0)) + 3) < 0 ∨ (RX w M fl ar (.inl p) T).2.1 (gR r96 508 M 0) ≤ Int32.toNatClampNeg ((4 * (gI r96 521 M 0)) + 3))) inferInstance (some (sI r99.2 601 (gR r96 508 M 0) (Int32.toNatClampNeg ((4 * (gI r96 521 M 0)) + 3)) r99.1)))))) else (if (ar 5 p) = 120 then (F_X5_digit M (RX w M fl ar (.inl (p + 1)) (up T (4 * j) (ar 5 p)))).bind (fun r105 => fg (¬ (((4 * (gI (RX w M fl ar (.inl (p + 1)) (up T (4 * j) (ar 5 p))) 521 M 0)) + 1) < 0 ∨ (RX w M fl ar (.inl p) T).2.1 (gR (RX w M fl ar (.inl p) T) 508 M 0) ≤ Int32.toNatClampNeg ((4 * (gI (RX w M fl ar (.inl (p + 1)) (up T (4 * j) (ar 5 p))) 521 M 0)) + 1))) inferInstance (some (sI r105.2 601 (gR (RX w M fl ar (.inl (p + 1)) (up T (4 * j) (ar 5 p))) 508 M 0) (Int32.toNatClampNeg ((4 * (gI (RX w M fl ar (.inl (p + 1)) (up T (4 * j) (ar 5 p))) 521 M 0)) + 1)) r105.1))) else (if (ar 5 p) = (-1) then some (sI (sI (RX w M fl ar (.inl (p + 1)) (up T (4 * j) (ar 5 p))) 522 M 0 1) 519 M 0 ((gI (sI (RX w M fl ar (.inl (p + 1)) (up T (4 * j) (ar 5 p))) 522 M 0 1) 519 M 0) - 0)) else some (sI (sI (RX w M fl ar (.inl (p + 1)) (up T (4 * j) (ar 5 p))) 522 M 0 1) 519 M 0 ((gI (sI (RX w M fl ar (.inl (p + 1)) (up T (4 * j) (ar 5 p))) 522 M 0 1) 519 M 0) - 1)))))))))))))))))))))))))) (fun x11 => some (sI x11 521 M 0 (gI x11 521 M 0 + 1))) := by
  have hh := m_here (ar := ar) H (.inl p) T (Nat.le_of_lt hp)
  have hj := H.2.2.1
  have f1 := H.2.2.2.2
  have e0 : 4 * nI j = nI (4 * j) := by rw [show (4 : Int32) = nI 4 from rfl, nI_mul]
  have ehd : hd (ar 5) L (vl (.inl p)) = ar 5 p := if_pos hp
  have ex : ((if ar 5 p = (-1) then some 0 else some 1) : Option (Int32)) = some 1 := if_neg hne
  have hW2 : sI (sI (RX w M fl ar (.inl p) T) 601 (gR (RX w M fl ar (.inl p) T) 508 M 0) (Int32.toNatClampNeg (4 * (gI (RX w M fl ar (.inl p) T) 521 M 0))) (ar 5 p)) 519 M 0 ((gI (sI (RX w M fl ar (.inl p) T) 601 (gR (RX w M fl ar (.inl p) T) 508 M 0) (Int32.toNatClampNeg (4 * (gI (RX w M fl ar (.inl p) T) 521 M 0))) (ar 5 p)) 519 M 0) + 1) = RX w M fl ar (.inl (p + 1)) (up T (4 * j) (ar 5 p)) := by
    rw [(rx_r6 H _ _).1, rx_f _ _ (by omega) (by omega), f1, e0, nI_clamp (by omega), rx_t, rx_at, nI_1]
    exact rx_s519 (.inl p) _ (vl (.inl p) + 1) (.inl (p + 1)) rfl rfl
  unfold F_X5_readsOne
  refine (fg_t H.1.1).trans ?_
  rw [hh, ehd, Option.bind_some]
  refine (fg_t (by rw [(rx_r6 H _ _).1]; exact (rx_r6 (ar := ar) H (.inl p) T).2)).trans ?_
  refine (fg_t (by rw [(rx_r6 H _ _).1, rx_f _ _ (by omega) (by omega), f1, e0]; exact rx_i6 H (k := 0) (by omega) _ rfl)).trans ?_
  rw [ex, Option.bind_some, hW2]
theorem one_end (H : RH w M L j fl) (r : Nat ⊕ Nat) (T : Nat → Int32) : gI (RX w M fl ar r T) 521 M 0 + 1 = nI (j + 1) := by
  rw [rx_f r T (by omega) (by omega), H.2.2.2.2, nI_1]
end MONE

