/-! The reference's read -/
def flB (fl : Nat → Int32) (L : Nat) : Nat → Int32 := up (up (up fl 500 0) 520 (nI L)) 511 0
def arB (ar : Nat → Nat → Int32) : Nat → Nat → Int32 := up ar 2 (cp 177 (ar 1) (ar 2))
theorem flB_n {fl : Nat → Int32} {L c : Nat} (h1 : ¬ c = 500) (h2 : ¬ c = 520) (h3 : ¬ c = 511) : flB fl L c = fl c := by
  unfold flB
  rw [up_n h3, up_n h2, up_n h1]
theorem arB_n {ar : Nat → Nat → Int32} {k : Nat} (h : ¬ k = 2) : arB ar k = ar k := up_n h
section MRD
variable {w : FW} {M L : Nat} {fl : Nat → Int32} {ar : Nat → Nat → Int32}
theorem rx_s521 (fl : Nat → Int32) (ar : Nat → Nat → Int32) (r : Nat ⊕ Nat) (T : Nat → Int32) (a b : Int32) : sI (RX w M (up fl 521 a) ar r T) 521 M 0 b = RX w M (up fl 521 b) ar r T := by
  unfold RX
  rw [mW_sf]
  congr 1
  funext c
  unfold up
  (repeat' split) <;> first | rfl | omega
theorem rx_start (h511 : fl 511 = nI L) : sI (sI (sI (sI (sI (mW w M (up fl 500 0) (up ar 2 (cp 177 (ar 1) (ar 2)))) 519 M 0 0) 520 M 0 (gI (sI (mW w M (up fl 500 0) (up ar 2 (cp 177 (ar 1) (ar 2)))) 519 M 0 0) 511 M 0)) 511 M 0 0) 521 M 0 0) 522 M 0 0 = RX w M (up (flB fl L) 521 (nI 0)) (arB ar) (.inl 0) (arB ar 6) := by
  rw [mW_sf, mW_f, up_n (by omega), up_n (by omega), h511, mW_sf, mW_sf, mW_sf, mW_sf]
  unfold RX arB flB
  rw [up_self]
  congr 1
  funext c
  unfold up
  (repeat' split) <;> first | rfl | omega
theorem rh_B (hB : MB w M) (hL : L ≤ 60) {j : Nat} (hj : j ≤ 31) : RH w M L j (up (flB fl L) 521 (nI j)) := by
  refine ⟨hB, hL, hj, ?_, up_s _ _ _⟩
  rw [up_n (by omega)]
  unfold flB
  rw [up_n (by omega), up_s]
/-- the arrays behind the orders, and what each order answers -/
def sqA (f : Nat → Int32) (L : Nat) (A : Nat → Int32) : Nat → Nat → Int32
  | 0 => A
  | i + 1 => (sAct f (psN f L i) (enN f L i) (sqA f L A i)).2.2
def sqR (f : Nat → Int32) (L : Nat) (A : Nat → Int32) (i : Nat) : Out := sAct f (psN f L i) (enN f L i) (sqA f L A i)
theorem m_back (hB : MB w M) : fLoop (σ := Int32 × FW) (ρ := FW) (fun s44 => (if 177 ≤ s44.1 then some (.inr s44.2) else fg ((mW w M fl ar).1 (gR s44.2 502 M 0) = 11) inferInstance (fg (¬ (s44.1 < 0 ∨ (mW w M fl ar).2.1 (gR s44.2 502 M 0) ≤ Int32.toNatClampNeg s44.1)) inferInstance (fg ((mW w M fl ar).1 (gR s44.2 501 M 0) = 11) inferInstance (fg (¬ (s44.1 < 0 ∨ (mW w M fl ar).2.1 (gR s44.2 501 M 0) ≤ Int32.toNatClampNeg s44.1)) inferInstance (some (.inl ((s44.1 + 1), (sI s44.2 601 (gR s44.2 501 M 0) (Int32.toNatClampNeg s44.1) (gI s44.2 601 (gR s44.2 502 M 0) (Int32.toNatClampNeg s44.1))))))))))) (0, mW w M fl ar) = some (mW w M fl (up ar 1 (cp 177 (ar 2) (ar 1)))) := by
  obtain ⟨zk0, zk1, zk2, zk3, zk4, zk5, zk6, zk7, zk8, zl1, zl2, zl3, zl4, zl5, zl6, zl7, zl8, zr1, zr2, zr3, zr4, zr5, zr6, zr7, zr8⟩ := id hB
  have g1 : w.1 (gR w 501 M 0) = 11 := by rw [zr1]; exact zk1
  have l1 : w.2.1 (gR w 501 M 0) = 177 := by rw [zr1]; exact zl1
  have g2 : w.1 (gR w 502 M 0) = 11 := by rw [zr2]; exact zk2
  have l2 : w.2.1 (gR w 502 M 0) = 177 := by rw [zr2]; exact zl2
  have h := fLoop_for (σ := Int32 × FW) (ρ := FW) (f := (fun s44 => (if 177 ≤ s44.1 then some (.inr s44.2) else fg ((mW w M fl ar).1 (gR s44.2 502 M 0) = 11) inferInstance (fg (¬ (s44.1 < 0 ∨ (mW w M fl ar).2.1 (gR s44.2 502 M 0) ≤ Int32.toNatClampNeg s44.1)) inferInstance (fg ((mW w M fl ar).1 (gR s44.2 501 M 0) = 11) inferInstance (fg (¬ (s44.1 < 0 ∨ (mW w M fl ar).2.1 (gR s44.2 501 M 0) ≤ Int32.toNatClampNeg s44.1)) inferInstance (some (.inl ((s44.1 + 1), (sI s44.2 601 (gR s44.2 501 M 0) (Int32.toNatClampNeg s44.1) (gI s44.2 601 (gR s44.2 502 M 0) (Int32.toNatClampNeg s44.1)))))))))))) (fun k => (nI k, mW w M fl (up ar 1 (cp k (ar 2) (ar 1))))) 177 (r := mW w M fl (up ar 1 (cp 177 (ar 2) (ar 1)))) (fun k hk => ?_) ?_
  · have hs : (nI 0, mW w M fl (up ar 1 (cp 0 (ar 2) (ar 1)))) = ((0 : Int32), mW w M fl ar) := by
      rw [cp_0, up_self]
      rfl
    rw [hs] at h
    exact h
  · have c1 : ¬ (177 : Int32) ≤ nI k := nI_ge (b := 177) hk (by decide)
    dsimp only
    rw [if_neg c1]
    refine (fg_t g2).trans ?_
    refine (fg_t (i177 hk _ l2)).trans ?_
    refine (fg_t g1).trans ?_
    refine (fg_t (i177 hk _ l1)).trans ?_
    rw [mW_R, mW_R, zr1, zr2, nI_clamp (by omega), mW_a2, up_n (by decide), mW_s1, up_s, up_up, cp_s, nI_1]
  · have c1 : (177 : Int32) ≤ nI 177 := by decide
    dsimp only
    rw [if_pos c1]
end MRD
