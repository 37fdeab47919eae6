/-! The reference reads one order -/
theorem fit_w (f : Nat → Int32) (L p : Nat) : fitN f L 64 p = lf f L p := by
  unfold fitN
  by_cases h : p < L
  · rw [if_pos h, if_neg (by decide), if_neg (by decide), if_pos rfl]
  · rw [if_neg h]
    obtain ⟨-, h2, -⟩ := lf_s f L p
    by_cases z : lf f L p = 0
    · exact z.symm
    · have := (h2 0 (by omega)).1
      omega
theorem let_hd {f : Nat → Int32} {L p : Nat} : (isLet (hd f L p) = 0) ↔ ¬ (p < L ∧ isLet (f p) = 1) := by
  unfold hd
  by_cases h : p < L
  · rw [if_pos h]
    constructor
    · intro z y
      rw [z] at y
      exact absurd y.2 (by decide)
    · intro z
      exact (isLet_01 _).resolve_right (fun y => z ⟨h, y⟩)
  · rw [if_neg h]
    exact ⟨fun _ y => h y.1, fun _ => by decide⟩
section MWO
variable {w : FW} {M L j : Nat} {fl : Nat → Int32} {ar : Nat → Nat → Int32}
theorem vl_l (p : Nat) : vl (.inl p) = p := rfl
theorem vl_r (p : Nat) : vl (.inr p) = p := rfl
theorem rx_r6 (H : RH w M L j fl) (r : Nat ⊕ Nat) (T : Nat → Int32) : gR (RX w M fl ar r T) 508 M 0 = M + 6 ∧ (RX w M fl ar r T).1 (M + 6) = 11 := by
  obtain ⟨zk0, zk1, zk2, zk3, zk4, zk5, zk6, zk7, zk8, zl1, zl2, zl3, zl4, zl5, zl6, zl7, zl8, zr1, zr2, zr3, zr4, zr5, zr6, zr7, zr8⟩ := id H.1
  exact ⟨zr6, zk6⟩
theorem rx_i6 (H : RH w M L j fl) {k : Nat} (hk : k < 4) (N : Nat) (hN : N = w.2.1 (M + 6)) : ¬ (nI (4 * j + k) < 0 ∨ N ≤ (nI (4 * j + k)).toNatClampNeg) := by
  obtain ⟨zk0, zk1, zk2, zk3, zk4, zk5, zk6, zk7, zk8, zl1, zl2, zl3, zl4, zl5, zl6, zl7, zl8, zr1, zr2, zr3, zr4, zr5, zr6, zr7, zr8⟩ := id H.1
  rw [hN, zl6]
  have := H.2.2.1
  exact nI_in (by omega) (by decide)
/-- told of a word -/
def wrT (f : Nat → Int32) (L j p : Nat) (T : Nat → Int32) : Nat → Int32 :=
  up (up (up (up T (4 * j + 3) (nI p)) (4 * j + 1) (dv f L (pst f L (pst f L (.inl p) 64) 58))) (4 * j + 2) (dv f L (pst f L (pst f L (pst f L (pst f L (.inl p) 64) 58) 35) 62))) (4 * j + 3) (nI p + 100 * dv f L (pst f L (pst f L (pst f L (pst f L (pst f L (pst f L (.inl p) 64) 58) 35) 62) 35) 47))
end MWO
theorem pst_inv {f : Nat → Int32} {L q : Nat} {r : Nat ⊕ Nat} {s : Int32} (h : pst f L r s = .inl q) : ∃ p, r = .inl p ∧ ¬ fitN f L s p = 0 ∧ q = p + fitN f L s p := by
  cases r with
  | inl p =>
    by_cases c : fitN f L s p = 0
    · rw [pst_0 c] at h
      cases h
    · rw [pst_1 c] at h
      injection h with h'
      exact ⟨p, rfl, c, h'.symm⟩
  | inr p => cases h
theorem lit_inv {f : Nat → Int32} {L q : Nat} {r : Nat ⊕ Nat} {s : Int32} (hs : ¬ s = 33 ∧ ¬ s = 35 ∧ ¬ s = 64 ∧ ¬ s = 104 ∧ ¬ (-1) = s) (h : pst f L r s = .inl q) : ∃ p, r = .inl p ∧ q = p + 1 ∧ p < L ∧ f p = s := by
  obtain ⟨p, e, c, hq⟩ := pst_inv h
  rw [fit_lit hs] at c hq
  by_cases d : hd f L p = s
  · rw [if_pos d] at hq
    unfold hd at d
    by_cases z : p < L
    · rw [if_pos z] at d
      exact ⟨p, e, hq, z, d⟩
    · rw [if_neg z] at d
      exact absurd d hs.2.2.2.2
  · rw [if_neg d] at c
    exact absurd rfl c
theorem dig_inv {f : Nat → Int32} {L q : Nat} {r : Nat ⊕ Nat} (h : pst f L r 35 = .inl q) : ∃ p, r = .inl p ∧ q = p + 1 ∧ p < L ∧ dv f L r = f p - 48 ∧ ∃ d, d < 10 ∧ f p - 48 = nI d := by
  obtain ⟨p, e, c, hq⟩ := pst_inv h
  have c0 := c
  have hp := (fit_le f L 35 p).resolve_left c
  rw [fit_dig] at c hq
  by_cases d : inn (hd f L p) 48 57 = 0
  · rw [if_pos d] at c
    exact absurd rfl c
  · rw [if_neg d] at hq
    have hpL : p < L := by omega
    obtain ⟨j, j1, j2, j3⟩ := inn_1 (a := 48) (b := 57) (by omega) (by omega) d
    unfold hd at j3
    rw [if_pos hpL] at j3
    refine ⟨p, e, hq, hpL, ?_, j - 48, by omega, ?_⟩
    · rw [e]
      exact if_neg c0
    · rw [j3, show (48 : Int32) = nI 48 from rfl]
      exact nI_sub j1 (by omega)
theorem hlf_inv {f : Nat → Int32} {L q : Nat} {r : Nat ⊕ Nat} (h : pst f L r 104 = .inl q) : ∃ p, r = .inl p ∧ q = p + 1 ∧ p < L := by
  obtain ⟨p, e, c, hq⟩ := pst_inv h
  have hp := (fit_le f L 104 p).resolve_left c
  rw [fit_h] at c hq
  have h1 : fitN f L 104 p = 1 := by
    rw [fit_h]
    split
    · rfl
    · split
      · rfl
      · rename_i a b
        rw [if_neg a, if_neg b] at c
        exact absurd rfl c
  rw [fit_h] at h1
  rw [h1] at hq
  exact ⟨p, e, hq, by rw [fit_h] at hp; omega⟩
/-- what is told of the order from p to q -/
def OG (f : Nat → Int32) (L p q : Nat) (T : Nat → Int32) (i : Nat) : Prop :=
  (f p = 100 ∧ T (4 * i) = 100 ∧ q = p + 1) ∨
  ((f p = 99 ∨ f p = 111 ∨ f p = 116 ∨ f p = 120) ∧ T (4 * i) = f p ∧ T (4 * i + 1) = f (p + 1) - 48 ∧ q = p + 2) ∨
  ((f p = 102 ∨ f p = 103 ∨ f p = 108) ∧ T (4 * i) = f p ∧ T (4 * i + 1) = f (p + 1) - 48 ∧ T (4 * i + 2) = (if f (p + 2) = 114 then 1 else 0) ∧ q = p + 3) ∨
  (f p = 109 ∧ T (4 * i) = 109 ∧ T (4 * i + 1) = f (p + 1) - 48 ∧ T (4 * i + 2) = f (p + 3) - 48 ∧ q = p + 4) ∨
  ((f p = 112 ∨ f p = 119) ∧ T (4 * i) = f p ∧ T (4 * i + 1) = f (p + 1) - 48 ∧ T (4 * i + 2) = (if f (p + 2) = 114 then 1 else 0) ∧ T (4 * i + 3) = f (p + 4) - 48 ∧ q = p + 5) ∨
  (f p = 110 ∧ T (4 * i) = 110 ∧ ∃ g d, g = lf f L (p + 1) ∧ 1 ≤ g ∧ d < 10 ∧ f (p + g + 6) - 48 = nI d ∧ T (4 * i + 1) = f (p + g + 2) - 48 ∧ T (4 * i + 2) = f (p + g + 4) - 48 ∧ T (4 * i + 3) = nI (p + 1) + 100 * nI d ∧ f (p + g + 1) = 58 ∧ q = p + g + 7)
theorem OG.to {f : Nat → Int32} {L p q i : Nat} {T T' : Nat → Int32} (h : OG f L p q T i) (e : ∀ k, k < 4 → T' (4 * i + k) = T (4 * i + k)) : OG f L p q T' i := by
  have e0 := e 0 (by omega)
  have e1 := e 1 (by omega)
  have e2 := e 2 (by omega)
  have e3 := e 3 (by omega)
  rw [Nat.add_zero] at e0
  unfold OG
  rw [e0, e1, e2, e3]
  exact h
section MONE
variable {w : FW} {M L j : Nat} {fl : Nat → Int32} {ar : Nat → Nat → Int32}
theorem one_end (H : RH w M L j fl) (r : Nat ⊕ Nat) (T : Nat → Int32) : gI (RX w M fl ar r T) 521 M 0 + 1 = nI (j + 1) := by
  rw [rx_f r T (by omega) (by omega), H.2.2.2.2, nI_1]
end MONE
