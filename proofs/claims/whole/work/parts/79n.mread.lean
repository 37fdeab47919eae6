/-! The reference's read -/
def flB (fl : Nat → Int32) (L : Nat) : Nat → Int32 := up (up (up fl 500 0) 520 (nI L)) 511 0
def arB (ar : Nat → Nat → Int32) : Nat → Nat → Int32 := up ar 2 (cp 177 (ar 1) (ar 2))
theorem flB_n {fl : Nat → Int32} {L c : Nat} (h1 : ¬ c = 500) (h2 : ¬ c = 520) (h3 : ¬ c = 511) : flB fl L c = fl c := by
  unfold flB
  rw [up_n h3, up_n h2, up_n h1]
theorem arB_n {ar : Nat → Nat → Int32} {k : Nat} (h : ¬ k = 2) : arB ar k = ar k := up_n h
section MRD
variable {w : FW} {M L : Nat} {fl : Nat → Int32} {ar : Nat → Nat → Int32}
theorem rx_s521 (fl : Nat → Int32) (ar : Nat → Nat → Int32) (r : Nat ⊕ Nat) (T : Nat → Int32) (a b : Int32) : sI (RX w M (up fl 521 a) ar r T) 521 M 0 b = RX w M (up fl 521 b) ar r T := by
  unfold RX
  rw [mW_sf]
  congr 1
  funext c
  unfold up
  (repeat' split) <;> first | rfl | omega
theorem rx_start (h511 : fl 511 = nI L) : sI (sI (sI (sI (sI (mW w M (up fl 500 0) (up ar 2 (cp 177 (ar 1) (ar 2)))) 519 M 0 0) 520 M 0 (gI (sI (mW w M (up fl 500 0) (up ar 2 (cp 177 (ar 1) (ar 2)))) 519 M 0 0) 511 M 0)) 511 M 0 0) 521 M 0 0) 522 M 0 0 = RX w M (up (flB fl L) 521 (nI 0)) (arB ar) (.inl 0) (arB ar 6) := by
  rw [mW_sf, mW_f, up_n (by omega), up_n (by omega), h511, mW_sf, mW_sf, mW_sf, mW_sf]
  unfold RX arB flB
  rw [up_self]
  congr 1
  funext c
  unfold up
  (repeat' split) <;> first | rfl | omega
theorem rh_B (hB : MB w M) (hL : L ≤ 60) {j : Nat} (hj : j ≤ 31) : RH w M L j (up (flB fl L) 521 (nI j)) := by
  refine ⟨hB, hL, hj, ?_, up_s _ _ _⟩
  rw [up_n (by omega)]
  unfold flB
  rw [up_n (by omega), up_s]
theorem m_parse (hB : MB w M) (h511 : fl 511 = nI L) (hL : L ≤ 60) (hne : ∀ i, i < L → ¬ ar 5 i = -1) {m : Nat} (hm : m ≤ 30) (h1 : ¬ okO (ar 5) L m) (h2 : ∀ i, i < m → okO (ar 5) L i) (h3 : ∀ i, i ≤ m → 2 * i ≤ psN (ar 5) L i ∧ psN (ar 5) L i ≤ L) :
    ∃ T, F_X5_read M (mW w M fl ar) = ((fun x14 => (if (gI x14 522 M 0) = 0 then (if (gI x14 520 M 0) ≤ (gI x14 519 M 0) then (fLoop (σ := Int32 × FW) (ρ := (FW) ⊕ (Int32 × FW)) (fun s30 => (if (gI s30.2 521 M 0) ≤ s30.1 then some (.inr (.inl s30.2)) else (F_X5_does M s30.1 s30.2).bind (fun r40 => (if r40.1 = 0 then some (.inl ((s30.1 + 1), r40.2)) else (fLoop (σ := Int32 × FW) (ρ := FW) (fun s44 => (if 177 ≤ s44.1 then some (.inr s44.2) else fg ((mW w M fl ar).1 (gR s44.2 502 M 0) = 11) inferInstance (fg (¬ (s44.1 < 0 ∨ (mW w M fl ar).2.1 (gR s44.2 502 M 0) ≤ Int32.toNatClampNeg s44.1)) inferInstance (fg ((mW w M fl ar).1 (gR s44.2 501 M 0) = 11) inferInstance (fg (¬ (s44.1 < 0 ∨ (mW w M fl ar).2.1 (gR s44.2 501 M 0) ≤ Int32.toNatClampNeg s44.1)) inferInstance (some (.inl ((s44.1 + 1), (sI s44.2 601 (gR s44.2 501 M 0) (Int32.toNatClampNeg s44.1) (gI s44.2 601 (gR s44.2 502 M 0) (Int32.toNatClampNeg s44.1))))))))))) (0, r40.2)).bind (fun x50 => ((if r40.1 ≤ 0 then some (sI x50 514 M 0 s30.1) else some (sI (sI (sI x50 514 M 0 s30.1) 515 M 0 r40.1) 516 M 0 (gI (sI (sI x50 514 M 0 s30.1) 515 M 0 r40.1) 517 M 0))) : Option (FW)).bind (fun x58 => (F_X5_fails M 2 x58).bind (fun r62 => some (.inr (.inr (r62.1, r62.2)))))))))) (0, x14)).bind (fun x36 => fse x36 (fun z66 => (F_X5_changed M (gI z66 521 M 0) z66).bind (fun r67 => some (r67.1, r67.2))) (fun q9 => some q9)) else (F_X5_fails M 1 (sI x14 513 M 0 (gI x14 519 M 0))).bind (fun r70 => some (r70.1, r70.2))) else (F_X5_fails M 1 (sI x14 513 M 0 (gI x14 519 M 0))).bind (fun r26 => some (r26.1, r26.2))))) (RX w M (up (flB fl L) 521 (nI (m + 1))) (arB ar) (eoo (ar 5) L (psN (ar 5) L m)) T) ∧ ∀ k, k ≤ m → ∀ q, eoo (ar 5) L (psN (ar 5) L k) = .inl q → OG (ar 5) L (psN (ar 5) L k) q T k := by
  have a5 : arB ar 5 = ar 5 := arB_n (by omega)
  have one : ∀ j, j ≤ 31 → ∀ p, p ≤ L → ∀ T, OneR w M L j (up (flB fl L) 521 (nI j)) (arB ar) p T := fun j hj p hp T => m_one (rh_B hB hL hj) hp (by rw [a5]; exact hne) T
  have one' : ∀ j, j ≤ 31 → ∀ p, p ≤ L → ∀ T, ∃ T', F_X5_readsOne M (RX w M (up (flB fl L) 521 (nI j)) (arB ar) (.inl p) T) = some (RX w M (up (flB fl L) 521 (nI (j + 1))) (arB ar) (eoo (ar 5) L p) T') ∧ (∀ i, i < 4 * j → T' i = T i) ∧ ∀ q, eoo (ar 5) L p = .inl q → OG (ar 5) L p q T' j := by
    intro j hj p hp T
    obtain ⟨T', e, l, g⟩ := one j hj p hp T
    rw [a5, rx_s521] at e
    rw [a5] at g
    exact ⟨T', e, l, g⟩
  obtain ⟨T0, e0, -, g0⟩ := one' 0 (by omega) 0 (Nat.zero_le _) (arB ar 6)
  have hl := fLoop_inv (σ := FW) (ρ := FW) (f := (fun s8 => (if (gI s8 522 M 0) = 0 then (F_X5_here M s8).bind (fun r18 => (if r18 = 59 then (F_X5_readsOne M (sI s8 519 M 0 ((gI s8 519 M 0) + 1))).bind (fun r22 => some (.inl r22)) else some (.inr s8))) else some (.inr s8)))) (Q := fun r => ∃ T, r = RX w M (up (flB fl L) 521 (nI (m + 1))) (arB ar) (eoo (ar 5) L (psN (ar 5) L m)) T ∧ ∀ k, k ≤ m → ∀ q, eoo (ar 5) L (psN (ar 5) L k) = .inl q → OG (ar 5) L (psN (ar 5) L k) q T k) (fun i s => ∃ T, s = RX w M (up (flB fl L) 521 (nI (i + 1))) (arB ar) (eoo (ar 5) L (psN (ar 5) L i)) T ∧ ∀ k, k ≤ i → ∀ q, eoo (ar 5) L (psN (ar 5) L k) = .inl q → OG (ar 5) L (psN (ar 5) L k) q T k) m (s := RX w M (up (flB fl L) 521 (nI (0 + 1))) (arB ar) (eoo (ar 5) L 0) T0) ⟨T0, rfl, fun k hk q hq => ?_⟩ (fun i s hi hI => ?_) (fun s hI => ?_)
  · obtain ⟨r, er, T, rfl, hg⟩ := hl
    refine ⟨T, ?_, hg⟩
    unfold F_X5_read
    refine (fg_t hB.1).trans ?_
    rw [m_remembers hB, Option.bind_some, rx_start h511]
    refine ob e0 ?_
    exact ob er rfl
  · have k0 : k = 0 := by omega
    subst k0
    exact g0 q hq
  · obtain ⟨T, rfl, hg⟩ := hI
    obtain ⟨o1, o2, o3⟩ := h2 i hi
    have H := rh_B (fl := fl) hB hL (j := i + 1) (by omega)
    have hh := m_here (ar := arB ar) H (.inl (enN (ar 5) L i)) T (Nat.le_of_lt o2)
    have ehd : hd (arB ar 5) L (vl (.inl (enN (ar 5) L i))) = 59 := by
      rw [a5]
      exact (if_pos o2).trans o3
    obtain ⟨T', e, l, g⟩ := one' (i + 1) (by omega) (psN (ar 5) L (i + 1)) (h3 (i + 1) (by omega)).2 T
    refine ⟨RX w M (up (flB fl L) 521 (nI (i + 1 + 1))) (arB ar) (eoo (ar 5) L (psN (ar 5) L (i + 1))) T', ?_, T', rfl, fun k hk q hq => ?_⟩
    · rw [o1, rx_bd, if_pos (show bd (.inl (enN (ar 5) L i)) = 0 from rfl), hh, ehd, Option.bind_some, if_pos rfl, rx_at, nI_1, rx_s519 (.inl (enN (ar 5) L i)) _ (vl (.inl (enN (ar 5) L i)) + 1) (.inl (psN (ar 5) L (i + 1))) rfl rfl, e, Option.bind_some]
    · by_cases z : k = i + 1
      · subst z
        exact g q hq
      · exact (hg k (by omega) q hq).to (fun j hj => l _ (by omega))
  · obtain ⟨T, rfl, hg⟩ := hI
    have H := rh_B (fl := fl) hB hL (j := m + 1) (by omega)
    refine ⟨_, ?_, T, rfl, hg⟩
    have hle := (eoo_le (f := ar 5) (h3 m (Nat.le_refl _)).2).2.1
    have hh := m_here (ar := arB ar) H (eoo (ar 5) L (psN (ar 5) L m)) T hle
    rw [rx_bd, hh]
    cases he : eoo (ar 5) L (psN (ar 5) L m) with
    | inl q =>
      have hn : ¬ hd (arB ar 5) L (vl (.inl q)) = 59 := by
        intro z
        rw [a5] at z
        have hq : enN (ar 5) L m = q := by
          unfold enN
          rw [he]
          rfl
        by_cases c : q < L
        · exact h1 ⟨by rw [hq]; exact he, by rw [hq]; exact c, by rw [hq]; exact (if_pos c).symm.trans z⟩
        · have : hd (ar 5) L (vl (.inl q)) = -1 := if_neg c
          rw [this] at z
          exact absurd z (by decide)
      rw [if_pos (show bd (.inl q) = 0 from rfl), Option.bind_some, if_neg hn]
    | inr q => rw [if_neg (show ¬ bd (.inr q) = 0 by show ¬ (1 : Int32) = 0; decide)]
theorem m_read_bad (hB : MB w M) (h511 : fl 511 = nI L) (hL : L ≤ 60) (hne : ∀ i, i < L → ¬ ar 5 i = -1) {m : Nat} (hm : m ≤ 30) (h1 : ¬ okO (ar 5) L m) (h2 : ∀ i, i < m → okO (ar 5) L i) (h3 : ∀ i, i ≤ m → 2 * i ≤ psN (ar 5) L i ∧ psN (ar 5) L i ≤ L) (hbad : ¬ eoo (ar 5) L (psN (ar 5) L m) = .inl L) :
    ∃ fl' ar', F_X5_read M (mW w M fl ar) = some (0, mW w M fl' ar') ∧ fl' 500 = 1 ∧ fl' 513 = fltV (ar 5) L m ∧ fl' 511 = 0 ∧ (∀ c, (c = 505 ∨ c = 506 ∨ c = 512 ∨ c = 514 ∨ c = 515 ∨ c = 516) → fl' c = fl c) ∧ ∀ k, (k = 1 ∨ k = 3 ∨ k = 4 ∨ k = 5 ∨ k = 7) → ar' k = ar k := by
  obtain ⟨T, e, -⟩ := m_parse hB h511 hL hne hm h1 h2 h3
  have hle := (eoo_le (f := ar 5) (h3 m (Nat.le_refl _)).2).2.1
  refine ⟨up (up (up (up (up (flB fl L) 521 (nI (m + 1))) 519 (nI (vl (eoo (ar 5) L (psN (ar 5) L m))))) 522 (bd (eoo (ar 5) L (psN (ar 5) L m)))) 513 (nI (vl (eoo (ar 5) L (psN (ar 5) L m))))) 500 1, up (arB ar) 6 T, ?_, up_s _ _ _, ?_, ?_, fun c hc => ?_, fun k hk => ?_⟩
  · rw [e]
    have efail : F_X5_fails M 1 (sI (RX w M (up (flB fl L) 521 (nI (m + 1))) (arB ar) (eoo (ar 5) L (psN (ar 5) L m)) T) 513 M 0 (gI (RX w M (up (flB fl L) 521 (nI (m + 1))) (arB ar) (eoo (ar 5) L (psN (ar 5) L m)) T) 519 M 0)) = some (0, mW w M (up (up (up (up (up (flB fl L) 521 (nI (m + 1))) 519 (nI (vl (eoo (ar 5) L (psN (ar 5) L m))))) 522 (bd (eoo (ar 5) L (psN (ar 5) L m)))) 513 (nI (vl (eoo (ar 5) L (psN (ar 5) L m))))) 500 1) (up (arB ar) 6 T)) := by
      rw [rx_at]
      unfold RX
      rw [mW_sf, m_fails hB]
    dsimp only
    rw [efail, rx_bd, Option.bind_some]
    have ef : gI (RX w M (up (flB fl L) 521 (nI (m + 1))) (arB ar) (eoo (ar 5) L (psN (ar 5) L m)) T) 520 M 0 = nI L := by
      rw [rx_f _ _ (by omega) (by omega), up_n (by omega)]
      unfold flB
      rw [up_n (by omega), up_s]
    rw [ef, rx_at]
    cases he : eoo (ar 5) L (psN (ar 5) L m) with
    | inl q =>
      rw [he] at hbad hle
      have hqL : q < L := by
        have h9 : q ≤ L := hle
        by_cases z : q = L
        · exact absurd (by rw [z]) hbad
        · omega
      rw [if_pos (show bd (.inl q) = 0 from rfl), if_neg (show ¬ nI L ≤ nI (vl (.inl q)) from nI_ge hqL (by omega))]
    | inr q => rw [if_neg (show ¬ bd (.inr q) = 0 by show ¬ (1 : Int32) = 0; decide)]
  · rw [up_n (by omega), up_s]
    unfold fltV
    cases he : eoo (ar 5) L (psN (ar 5) L m) with
    | inl q =>
      rw [he] at hbad hle
      have hqL : q < L := by
        have h9 : q ≤ L := hle
        by_cases z : q = L
        · exact absurd (by rw [z]) hbad
        · omega
      exact (if_pos hqL).symm
    | inr q => rfl
  · rw [up_n (by omega), up_n (by omega), up_n (by omega), up_n (by omega), up_n (by omega)]
    unfold flB
    exact up_s _ _ _
  · rw [up_n (by omega), up_n (by omega), up_n (by omega), up_n (by omega), up_n (by omega), flB_n (by omega) (by omega) (by omega)]
  · rw [up_n (by omega), arB_n (by omega)]
/-- the arrays behind the orders, and what each order answers -/
def sqA (f : Nat → Int32) (L : Nat) (A : Nat → Int32) : Nat → Nat → Int32
  | 0 => A
  | i + 1 => (sAct f (psN f L i) (enN f L i) (sqA f L A i)).2.2
def sqR (f : Nat → Int32) (L : Nat) (A : Nat → Int32) (i : Nat) : Out := sAct f (psN f L i) (enN f L i) (sqA f L A i)
theorem m_back (hB : MB w M) : fLoop (σ := Int32 × FW) (ρ := FW) (fun s44 => (if 177 ≤ s44.1 then some (.inr s44.2) else fg ((mW w M fl ar).1 (gR s44.2 502 M 0) = 11) inferInstance (fg (¬ (s44.1 < 0 ∨ (mW w M fl ar).2.1 (gR s44.2 502 M 0) ≤ Int32.toNatClampNeg s44.1)) inferInstance (fg ((mW w M fl ar).1 (gR s44.2 501 M 0) = 11) inferInstance (fg (¬ (s44.1 < 0 ∨ (mW w M fl ar).2.1 (gR s44.2 501 M 0) ≤ Int32.toNatClampNeg s44.1)) inferInstance (some (.inl ((s44.1 + 1), (sI s44.2 601 (gR s44.2 501 M 0) (Int32.toNatClampNeg s44.1) (gI s44.2 601 (gR s44.2 502 M 0) (Int32.toNatClampNeg s44.1))))))))))) (0, mW w M fl ar) = some (mW w M fl (up ar 1 (cp 177 (ar 2) (ar 1)))) := by
  obtain ⟨zk0, zk1, zk2, zk3, zk4, zk5, zk6, zk7, zk8, zl1, zl2, zl3, zl4, zl5, zl6, zl7, zl8, zr1, zr2, zr3, zr4, zr5, zr6, zr7, zr8⟩ := id hB
  have g1 : w.1 (gR w 501 M 0) = 11 := by rw [zr1]; exact zk1
  have l1 : w.2.1 (gR w 501 M 0) = 177 := by rw [zr1]; exact zl1
  have g2 : w.1 (gR w 502 M 0) = 11 := by rw [zr2]; exact zk2
  have l2 : w.2.1 (gR w 502 M 0) = 177 := by rw [zr2]; exact zl2
  have h := fLoop_for (σ := Int32 × FW) (ρ := FW) (f := (fun s44 => (if 177 ≤ s44.1 then some (.inr s44.2) else fg ((mW w M fl ar).1 (gR s44.2 502 M 0) = 11) inferInstance (fg (¬ (s44.1 < 0 ∨ (mW w M fl ar).2.1 (gR s44.2 502 M 0) ≤ Int32.toNatClampNeg s44.1)) inferInstance (fg ((mW w M fl ar).1 (gR s44.2 501 M 0) = 11) inferInstance (fg (¬ (s44.1 < 0 ∨ (mW w M fl ar).2.1 (gR s44.2 501 M 0) ≤ Int32.toNatClampNeg s44.1)) inferInstance (some (.inl ((s44.1 + 1), (sI s44.2 601 (gR s44.2 501 M 0) (Int32.toNatClampNeg s44.1) (gI s44.2 601 (gR s44.2 502 M 0) (Int32.toNatClampNeg s44.1)))))))))))) (fun k => (nI k, mW w M fl (up ar 1 (cp k (ar 2) (ar 1))))) 177 (r := mW w M fl (up ar 1 (cp 177 (ar 2) (ar 1)))) (fun k hk => ?_) ?_
  · have hs : (nI 0, mW w M fl (up ar 1 (cp 0 (ar 2) (ar 1)))) = ((0 : Int32), mW w M fl ar) := by
      rw [cp_0, up_self]
      rfl
    rw [hs] at h
    exact h
  · have c1 : ¬ (177 : Int32) ≤ nI k := nI_ge (b := 177) hk (by decide)
    dsimp only
    rw [if_neg c1]
    refine (fg_t g2).trans ?_
    refine (fg_t (i177 hk _ l2)).trans ?_
    refine (fg_t g1).trans ?_
    refine (fg_t (i177 hk _ l1)).trans ?_
    rw [mW_R, mW_R, zr1, zr2, nI_clamp (by omega), mW_a2, up_n (by decide), mW_s1, up_s, up_up, cp_s, nI_1]
  · have c1 : (177 : Int32) ≤ nI 177 := by decide
    dsimp only
    rw [if_pos c1]
end MRD
