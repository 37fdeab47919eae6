/-! The reference's read, where nothing is at fault -/
section MAC
variable {w : FW} {M L m : Nat} {fl : Nat → Int32} {ar : Nat → Nat → Int32} {T : Nat → Int32}
/-- the reference's world before the i-th order is done -/
def DI (w : FW) (M L m : Nat) (fl : Nat → Int32) (ar : Nat → Nat → Int32) (T : Nat → Int32) (i : Nat) (s : Int32 × FW) : Prop := ∃ fl' ar', s = (nI i, mW w M fl' ar') ∧ ar' 1 = sqA (ar 5) L (ar 1) i ∧ (∀ k, ¬ k = 1 → ¬ k = 8 → ar' k = up (arB ar) 6 T k) ∧ ∀ c, ¬ c = 517 → ¬ c = 518 → fl' c = up (up (up (flB fl L) 521 (nI (m + 1))) 519 (nI L)) 522 0 c
theorem DI0 : DI w M L m fl ar T 0 (0, RX w M (up (flB fl L) 521 (nI (m + 1))) (arB ar) (.inl L) T) :=
  ⟨_, _, rfl, (up_n (by omega)).trans (arB_n (by omega)), fun k _ _ => rfl, fun c _ _ => rfl⟩
theorem oF_n {r : Out} {c : Nat} (h1 : ¬ c = 517) (h2 : ¬ c = 518) : oF fl r c = fl c := by
  unfold oF
  split
  · rfl
  · split
    · exact up_n h2
    · exact up_n h1
theorem does_i (hB : MB w M) (hL : L ≤ 60) (hm : m ≤ 30) (h3 : ∀ i, i ≤ m → 2 * i ≤ psN (ar 5) L i ∧ psN (ar 5) L i ≤ L) (hg : ∀ k, k ≤ m → OG (ar 5) L (psN (ar 5) L k) (enN (ar 5) L k) T k) {i : Nat} (hi : i ≤ m) (hW : WA (sqA (ar 5) L (ar 1) i)) {fl' : Nat → Int32} {ar' : Nat → Nat → Int32} (d1 : ar' 1 = sqA (ar 5) L (ar 1) i) (d2 : ∀ k, ¬ k = 1 → ¬ k = 8 → ar' k = up (arB ar) 6 T k) (d3 : ∀ c, ¬ c = 517 → ¬ c = 518 → fl' c = up (up (up (flB fl L) 521 (nI (m + 1))) 519 (nI L)) 522 0 c) :
    gI (mW w M fl' ar') 521 M 0 = nI (m + 1) ∧ ∃ g8, F_X5_does M (nI i) (mW w M fl' ar') = some ((sqR (ar 5) L (ar 1) i).1, mW w M (oF fl' (sqR (ar 5) L (ar 1) i)) (up (up ar' 8 g8) 1 (sqR (ar 5) L (ar 1) i).2.2)) := by
  have a5 : ar' 5 = ar 5 := (d2 5 (by omega) (by omega)).trans ((up_n (by omega)).trans (arB_n (by omega)))
  have a6 : ar' 6 = T := (d2 6 (by omega) (by omega)).trans (up_s _ _ _)
  have hle := (eoo_le (f := ar 5) (h3 i hi).2).2.1
  refine ⟨?_, ?_⟩
  · rw [mW_f, d3 521 (by omega) (by omega), up_n (by omega), up_n (by omega), up_s]
  · have ho : OG (ar' 5) L (psN (ar 5) L i) (enN (ar 5) L i) (ar' 6) i := by
      rw [a5, a6]
      exact hg i hi
    obtain ⟨g8, e⟩ := m_does (fl := fl') (ar := ar') (L := L) hB (by rw [d1]; exact hW) (show i ≤ 30 by omega) hL hle ho
    rw [a5, d1] at e
    exact ⟨g8, e⟩
theorem does_go (hB : MB w M) (hL : L ≤ 60) (hm : m ≤ 30) (h3 : ∀ i, i ≤ m → 2 * i ≤ psN (ar 5) L i ∧ psN (ar 5) L i ≤ L) (hg : ∀ k, k ≤ m → OG (ar 5) L (psN (ar 5) L k) (enN (ar 5) L k) T k) {i : Nat} (hi : i ≤ m) (hW : WA (sqA (ar 5) L (ar 1) i)) (hz : (sqR (ar 5) L (ar 1) i).1 = 0) (s : Int32 × FW) (hs : DI w M L m fl ar T i s) : ∃ s', ((fun s30 => (if (gI s30.2 521 M 0) ≤ s30.1 then some (.inr (.inl s30.2)) else (F_X5_does M s30.1 s30.2).bind (fun r40 => (if r40.1 = 0 then some (.inl ((s30.1 + 1), r40.2)) else (fLoop (σ := Int32 × FW) (ρ := FW) (fun s44 => (if 177 ≤ s44.1 then some (.inr s44.2) else fg ((mW w M fl ar).1 (gR s44.2 502 M 0) = 11) inferInstance (fg (¬ (s44.1 < 0 ∨ (mW w M fl ar).2.1 (gR s44.2 502 M 0) ≤ Int32.toNatClampNeg s44.1)) inferInstance (fg ((mW w M fl ar).1 (gR s44.2 501 M 0) = 11) inferInstance (fg (¬ (s44.1 < 0 ∨ (mW w M fl ar).2.1 (gR s44.2 501 M 0) ≤ Int32.toNatClampNeg s44.1)) inferInstance (some (.inl ((s44.1 + 1), (sI s44.2 601 (gR s44.2 501 M 0) (Int32.toNatClampNeg s44.1) (gI s44.2 601 (gR s44.2 502 M 0) (Int32.toNatClampNeg s44.1))))))))))) (0, r40.2)).bind (fun x50 => ((if r40.1 ≤ 0 then some (sI x50 514 M 0 s30.1) else some (sI (sI (sI x50 514 M 0 s30.1) 515 M 0 r40.1) 516 M 0 (gI (sI (sI x50 514 M 0 s30.1) 515 M 0 r40.1) 517 M 0))) : Option (FW)).bind (fun x58 => (F_X5_fails M 2 x58).bind (fun r62 => some (.inr (.inr (r62.1, r62.2)))))))))) : Int32 × FW → Option ((Int32 × FW) ⊕ ((FW) ⊕ (Int32 × FW)))) s = some (.inl s') ∧ DI w M L m fl ar T (i + 1) s' := by
  obtain ⟨fl', ar', rfl, d1, d2, d3⟩ := hs
  obtain ⟨e0, g8, e1⟩ := does_i (fl := fl) hB hL hm h3 hg hi hW d1 d2 d3
  refine ⟨(nI (i + 1), mW w M (oF fl' (sqR (ar 5) L (ar 1) i)) (up (up ar' 8 g8) 1 (sqR (ar 5) L (ar 1) i).2.2)), ?_, _, _, rfl, up_s _ _ _, fun k k1 k8 => ?_, fun c c1 c2 => ?_⟩
  · dsimp only
    rw [e0, if_neg (nI_ge (by omega) (by omega)), e1, Option.bind_some]
    dsimp only
    rw [if_pos hz, nI_1]
  · rw [up_n k1, up_n k8]
    exact d2 k k1 k8
  · rw [oF_n c1 c2]
    exact d3 c c1 c2
theorem m_read_ok (hB : MB w M) (h511 : fl 511 = nI L) (hL : L ≤ 60) (hne : ∀ i, i < L → ¬ ar 5 i = -1) (hm : m ≤ 30) (h1 : ¬ okO (ar 5) L m) (h2 : ∀ i, i < m → okO (ar 5) L i) (h3 : ∀ i, i ≤ m → 2 * i ≤ psN (ar 5) L i ∧ psN (ar 5) L i ≤ L) (hok : eoo (ar 5) L (psN (ar 5) L m) = .inl L) (hW : ∀ i, i ≤ m + 1 → WA (sqA (ar 5) L (ar 1) i)) (hz : ∀ i, i ≤ m → (sqR (ar 5) L (ar 1) i).1 = 0) {n : Nat} (h5 : fl 505 = nI n) (h8 : n ≤ 8) :
    ∃ fl' ar', F_X5_read M (mW w M fl ar) = some (nI (m + 1), mW w M fl' ar') ∧ fl' 500 = 0 ∧ fl' 511 = 0 ∧ fl' 505 = nI (if n = 8 then 8 else n + 1) ∧ (∀ c, (c = 506 ∨ c = 512 ∨ c = 513 ∨ c = 514 ∨ c = 515 ∨ c = 516) → fl' c = fl c) ∧ ar' 1 = sqA (ar 5) L (ar 1) (m + 1) ∧ ar' 4 = hPush n (cp 177 (ar 1) (ar 2)) (ar 4) ∧ ∀ k, (k = 3 ∨ k = 5 ∨ k = 7) → ar' k = ar k := by
  obtain ⟨T, e, hgT⟩ := m_parse hB h511 hL hne hm h1 h2 h3
  have hg : ∀ k, k ≤ m → OG (ar 5) L (psN (ar 5) L k) (enN (ar 5) L k) T k := fun k hk => by
    by_cases z : k = m
    · subst z
      refine hgT k hk _ ?_
      unfold enN
      rw [hok]
      rfl
    · exact hgT k hk _ (h2 k (by omega)).1
  have hl := fLoop_inv (σ := Int32 × FW) (ρ := (FW) ⊕ (Int32 × FW)) (f := (fun s30 => (if (gI s30.2 521 M 0) ≤ s30.1 then some (.inr (.inl s30.2)) else (F_X5_does M s30.1 s30.2).bind (fun r40 => (if r40.1 = 0 then some (.inl ((s30.1 + 1), r40.2)) else (fLoop (σ := Int32 × FW) (ρ := FW) (fun s44 => (if 177 ≤ s44.1 then some (.inr s44.2) else fg ((mW w M fl ar).1 (gR s44.2 502 M 0) = 11) inferInstance (fg (¬ (s44.1 < 0 ∨ (mW w M fl ar).2.1 (gR s44.2 502 M 0) ≤ Int32.toNatClampNeg s44.1)) inferInstance (fg ((mW w M fl ar).1 (gR s44.2 501 M 0) = 11) inferInstance (fg (¬ (s44.1 < 0 ∨ (mW w M fl ar).2.1 (gR s44.2 501 M 0) ≤ Int32.toNatClampNeg s44.1)) inferInstance (some (.inl ((s44.1 + 1), (sI s44.2 601 (gR s44.2 501 M 0) (Int32.toNatClampNeg s44.1) (gI s44.2 601 (gR s44.2 502 M 0) (Int32.toNatClampNeg s44.1))))))))))) (0, r40.2)).bind (fun x50 => ((if r40.1 ≤ 0 then some (sI x50 514 M 0 s30.1) else some (sI (sI (sI x50 514 M 0 s30.1) 515 M 0 r40.1) 516 M 0 (gI (sI (sI x50 514 M 0 s30.1) 515 M 0 r40.1) 517 M 0))) : Option (FW)).bind (fun x58 => (F_X5_fails M 2 x58).bind (fun r62 => some (.inr (.inr (r62.1, r62.2))))))))))) (Q := fun r => ∃ fl' ar', r = .inl (mW w M fl' ar') ∧ ar' 1 = sqA (ar 5) L (ar 1) (m + 1) ∧ (∀ k, ¬ k = 1 → ¬ k = 8 → ar' k = up (arB ar) 6 T k) ∧ ∀ c, ¬ c = 517 → ¬ c = 518 → fl' c = up (up (up (flB fl L) 521 (nI (m + 1))) 519 (nI L)) 522 0 c) (DI w M L m fl ar T) (m + 1) DI0 (fun i s hi hs => does_go hB hL hm h3 hg (by omega) (hW i (by omega)) (hz i (by omega)) s hs) (fun s hs => ?_)
  · obtain ⟨r, er, fl', ar', rfl, d1, d2, d3⟩ := hl
    have e505 : fl' 505 = nI n := by
      rw [d3 505 (by omega) (by omega), up_n (by omega), up_n (by omega), up_n (by omega), flB_n (by omega) (by omega) (by omega)]
      exact h5
    have e521 : gI (mW w M fl' ar') 521 M 0 = nI (m + 1) := by
      rw [mW_f, d3 521 (by omega) (by omega), up_n (by omega), up_n (by omega), up_s]
    refine ⟨up fl' 505 (nI (if n = 8 then 8 else n + 1)), up ar' 4 (hPush n (ar' 2) (ar' 4)), ?_, ?_, ?_, up_s _ _ _, fun c hc => ?_, ?_, (up_s _ _ _).trans ?_, fun k hk => ?_⟩
    · rw [e, hok]
      have e520 : gI (RX w M (up (flB fl L) 521 (nI (m + 1))) (arB ar) (.inl L) T) 520 M 0 = nI L := by
        rw [rx_f _ _ (by omega) (by omega), up_n (by omega)]
        unfold flB
        rw [up_n (by omega), up_s]
      dsimp only
      rw [rx_bd, if_pos (show bd (.inl L) = 0 from rfl), e520, rx_at, if_pos (show nI L ≤ nI (vl (.inl L)) from nI_le (Nat.le_refl _) (show L < 2 ^ 31 by omega)), er, Option.bind_some]
      show (F_X5_changed M (gI (mW w M fl' ar') 521 M 0) (mW w M fl' ar')).bind _ = _
      rw [e521, m_changed hB _ e505 h8, Option.bind_some]
    · rw [up_n (by omega), d3 500 (by omega) (by omega), up_n (by omega), up_n (by omega), up_n (by omega)]
      unfold flB
      rw [up_n (by omega), up_n (by omega), up_s]
    · rw [up_n (by omega), d3 511 (by omega) (by omega), up_n (by omega), up_n (by omega), up_n (by omega)]
      exact up_s _ _ _
    · rw [up_n (by omega), d3 c (by omega) (by omega), up_n (by omega), up_n (by omega), up_n (by omega), flB_n (by omega) (by omega) (by omega)]
    · rw [up_n (by omega)]
      exact d1
    · have a2 : ar' 2 = cp 177 (ar 1) (ar 2) := (d2 2 (by omega) (by omega)).trans ((up_n (by omega)).trans (up_s _ _ _))
      have a4 : ar' 4 = ar 4 := (d2 4 (by omega) (by omega)).trans ((up_n (by omega)).trans (arB_n (by omega)))
      rw [a2, a4]
    · rw [up_n (by omega), d2 k (by omega) (by omega), up_n (by omega), arB_n (by omega)]
  · obtain ⟨fl', ar', rfl, d1, d2, d3⟩ := hs
    refine ⟨_, ?_, fl', ar', rfl, d1, d2, d3⟩
    have e521 : gI (mW w M fl' ar') 521 M 0 = nI (m + 1) := by
      rw [mW_f, d3 521 (by omega) (by omega), up_n (by omega), up_n (by omega), up_s]
    dsimp only
    rw [e521, if_pos (nI_le (Nat.le_refl _) (by omega))]
theorem m_read_no (hB : MB w M) (h511 : fl 511 = nI L) (hL : L ≤ 60) (hne : ∀ i, i < L → ¬ ar 5 i = -1) (hm : m ≤ 30) (h1 : ¬ okO (ar 5) L m) (h2 : ∀ i, i < m → okO (ar 5) L i) (h3 : ∀ i, i ≤ m → 2 * i ≤ psN (ar 5) L i ∧ psN (ar 5) L i ≤ L) (hok : eoo (ar 5) L (psN (ar 5) L m) = .inl L) {u : Nat} (hu : u ≤ m) (hW : ∀ i, i ≤ u → WA (sqA (ar 5) L (ar 1) i)) (hz : ∀ i, i < u → (sqR (ar 5) L (ar 1) i).1 = 0) (hr : ¬ (sqR (ar 5) L (ar 1) u).1 = 0) :
    ∃ fl' ar', F_X5_read M (mW w M fl ar) = some (0, mW w M fl' ar') ∧ fl' 500 = 2 ∧ fl' 511 = 0 ∧ fl' 514 = nI u ∧ fl' 515 = (if (sqR (ar 5) L (ar 1) u).1 ≤ 0 then fl 515 else (sqR (ar 5) L (ar 1) u).1) ∧ fl' 516 = (if (sqR (ar 5) L (ar 1) u).1 ≤ 0 then fl 516 else (sqR (ar 5) L (ar 1) u).2.1) ∧ (∀ c, (c = 505 ∨ c = 506 ∨ c = 512 ∨ c = 513) → fl' c = fl c) ∧ (∀ k, k < 177 → ar' 1 k = ar 1 k) ∧ ∀ k, (k = 3 ∨ k = 4 ∨ k = 5 ∨ k = 7) → ar' k = ar k := by
  obtain ⟨T, e, hgT⟩ := m_parse hB h511 hL hne hm h1 h2 h3
  have hg : ∀ k, k ≤ m → OG (ar 5) L (psN (ar 5) L k) (enN (ar 5) L k) T k := fun k hk => by
    by_cases z : k = m
    · subst z
      refine hgT k hk _ ?_
      unfold enN
      rw [hok]
      rfl
    · exact hgT k hk _ (h2 k (by omega)).1
  have hl := fLoop_inv (σ := Int32 × FW) (ρ := (FW) ⊕ (Int32 × FW)) (f := (fun s30 => (if (gI s30.2 521 M 0) ≤ s30.1 then some (.inr (.inl s30.2)) else (F_X5_does M s30.1 s30.2).bind (fun r40 => (if r40.1 = 0 then some (.inl ((s30.1 + 1), r40.2)) else (fLoop (σ := Int32 × FW) (ρ := FW) (fun s44 => (if 177 ≤ s44.1 then some (.inr s44.2) else fg ((mW w M fl ar).1 (gR s44.2 502 M 0) = 11) inferInstance (fg (¬ (s44.1 < 0 ∨ (mW w M fl ar).2.1 (gR s44.2 502 M 0) ≤ Int32.toNatClampNeg s44.1)) inferInstance (fg ((mW w M fl ar).1 (gR s44.2 501 M 0) = 11) inferInstance (fg (¬ (s44.1 < 0 ∨ (mW w M fl ar).2.1 (gR s44.2 501 M 0) ≤ Int32.toNatClampNeg s44.1)) inferInstance (some (.inl ((s44.1 + 1), (sI s44.2 601 (gR s44.2 501 M 0) (Int32.toNatClampNeg s44.1) (gI s44.2 601 (gR s44.2 502 M 0) (Int32.toNatClampNeg s44.1))))))))))) (0, r40.2)).bind (fun x50 => ((if r40.1 ≤ 0 then some (sI x50 514 M 0 s30.1) else some (sI (sI (sI x50 514 M 0 s30.1) 515 M 0 r40.1) 516 M 0 (gI (sI (sI x50 514 M 0 s30.1) 515 M 0 r40.1) 517 M 0))) : Option (FW)).bind (fun x58 => (F_X5_fails M 2 x58).bind (fun r62 => some (.inr (.inr (r62.1, r62.2))))))))))) (Q := fun r => ∃ fl' ar', r = .inr (0, mW w M fl' ar') ∧ fl' 500 = 2 ∧ fl' 511 = 0 ∧ fl' 514 = nI u ∧ fl' 515 = (if (sqR (ar 5) L (ar 1) u).1 ≤ 0 then fl 515 else (sqR (ar 5) L (ar 1) u).1) ∧ fl' 516 = (if (sqR (ar 5) L (ar 1) u).1 ≤ 0 then fl 516 else (sqR (ar 5) L (ar 1) u).2.1) ∧ (∀ c, (c = 505 ∨ c = 506 ∨ c = 512 ∨ c = 513) → fl' c = fl c) ∧ (∀ k, k < 177 → ar' 1 k = ar 1 k) ∧ ∀ k, (k = 3 ∨ k = 4 ∨ k = 5 ∨ k = 7) → ar' k = ar k) (DI w M L m fl ar T) u DI0 (fun i s hi hs => does_go hB hL hm h3 hg (by omega) (hW i (by omega)) (hz i (by omega)) s hs) (fun s hs => ?_)
  · obtain ⟨r, er, fl', ar', rfl, hq⟩ := hl
    refine ⟨fl', ar', ?_, hq⟩
    rw [e, hok]
    have e520 : gI (RX w M (up (flB fl L) 521 (nI (m + 1))) (arB ar) (.inl L) T) 520 M 0 = nI L := by
      rw [rx_f _ _ (by omega) (by omega), up_n (by omega)]
      unfold flB
      rw [up_n (by omega), up_s]
    dsimp only
    rw [rx_bd, if_pos (show bd (.inl L) = 0 from rfl), e520, rx_at, if_pos (show nI L ≤ nI (vl (.inl L)) from nI_le (Nat.le_refl _) (show L < 2 ^ 31 by omega)), er, Option.bind_some]
    rfl
  · obtain ⟨fl', ar', rfl, d1, d2, d3⟩ := hs
    obtain ⟨e0, g8, e1⟩ := does_i (fl := fl) hB hL hm h3 hg hu (hW u (Nat.le_refl _)) d1 d2 d3
    have hbase : ∀ c, ¬ c = 517 → ¬ c = 518 → ¬ c = 522 → ¬ c = 519 → ¬ c = 521 → ¬ c = 500 → ¬ c = 520 → ¬ c = 511 → fl' c = fl c := fun c c1 c2 c3 c4 c5 c6 c7 c8 => by
      rw [d3 c c1 c2, up_n c3, up_n c4, up_n c5, flB_n c6 c7 c8]
    have h511' : fl' 511 = 0 := by
      rw [d3 511 (by omega) (by omega), up_n (by omega), up_n (by omega), up_n (by omega)]
      exact up_s _ _ _
    have a2 : (up (up ar' 8 g8) 1 (sqR (ar 5) L (ar 1) u).2.2) 2 = cp 177 (ar 1) (ar 2) := by
      rw [up_n (by omega), up_n (by omega), d2 2 (by omega) (by omega), up_n (by omega)]
      exact up_s _ _ _
    have ar9 : ∀ k, (k = 3 ∨ k = 4 ∨ k = 5 ∨ k = 7) → (up (up (up ar' 8 g8) 1 (sqR (ar 5) L (ar 1) u).2.2) 1 (cp 177 ((up (up ar' 8 g8) 1 (sqR (ar 5) L (ar 1) u).2.2) 2) ((up (up ar' 8 g8) 1 (sqR (ar 5) L (ar 1) u).2.2) 1))) k = ar k := fun k hk => by
      rw [up_n (by omega), up_n (by omega), up_n (by omega), d2 k (by omega) (by omega), up_n (by omega), arB_n (by omega)]
    have ar1 : ∀ k, k < 177 → (up (up (up ar' 8 g8) 1 (sqR (ar 5) L (ar 1) u).2.2) 1 (cp 177 ((up (up ar' 8 g8) 1 (sqR (ar 5) L (ar 1) u).2.2) 2) ((up (up ar' 8 g8) 1 (sqR (ar 5) L (ar 1) u).2.2) 1))) 1 k = ar 1 k := fun k hk => by
      rw [up_s, cp_l hk, a2, cp_l hk]
    have hbk := m_back (fl := oF fl' (sqR (ar 5) L (ar 1) u)) (ar := up (up ar' 8 g8) 1 (sqR (ar 5) L (ar 1) u).2.2) hB
    by_cases hneg : (sqR (ar 5) L (ar 1) u).1 ≤ 0
    · refine ⟨.inr (0, mW w M (up (up (oF fl' (sqR (ar 5) L (ar 1) u)) 514 (nI u)) 500 2) (up (up (up ar' 8 g8) 1 (sqR (ar 5) L (ar 1) u).2.2) 1 (cp 177 ((up (up ar' 8 g8) 1 (sqR (ar 5) L (ar 1) u).2.2) 2) ((up (up ar' 8 g8) 1 (sqR (ar 5) L (ar 1) u).2.2) 1)))), ?_, up (up (oF fl' (sqR (ar 5) L (ar 1) u)) 514 (nI u)) 500 2, (up (up (up ar' 8 g8) 1 (sqR (ar 5) L (ar 1) u).2.2) 1 (cp 177 ((up (up ar' 8 g8) 1 (sqR (ar 5) L (ar 1) u).2.2) 2) ((up (up ar' 8 g8) 1 (sqR (ar 5) L (ar 1) u).2.2) 1))), rfl, up_s _ _ _, ?_, ?_, ?_, ?_, fun c hc => ?_, ar1, ar9⟩
      · dsimp only
        rw [e0, if_neg (nI_ge (by omega) (by omega)), e1, Option.bind_some]
        dsimp only
        rw [if_neg hr]
        refine ob hbk ?_
        rw [if_pos hneg, Option.bind_some, mW_sf, m_fails hB, Option.bind_some]
      · rw [up_n (by omega), up_n (by omega), oF_n (by omega) (by omega)]
        exact h511'
      · rw [up_n (by omega), up_s]
      · rw [up_n (by omega), up_n (by omega), oF_n (by omega) (by omega), if_pos hneg]
        exact hbase 515 (by omega) (by omega) (by omega) (by omega) (by omega) (by omega) (by omega) (by omega)
      · rw [up_n (by omega), up_n (by omega), oF_n (by omega) (by omega), if_pos hneg]
        exact hbase 516 (by omega) (by omega) (by omega) (by omega) (by omega) (by omega) (by omega) (by omega)
      · rw [up_n (by omega), up_n (by omega), oF_n (by omega) (by omega)]
        exact hbase c (by omega) (by omega) (by omega) (by omega) (by omega) (by omega) (by omega) (by omega)
    · have hpos : oF fl' (sqR (ar 5) L (ar 1) u) 517 = (sqR (ar 5) L (ar 1) u).2.1 := by
        unfold oF
        rw [if_neg (fun z => hneg (by rw [Int32.lt_iff_toInt_lt] at z; rw [Int32.le_iff_toInt_le]; omega)), if_neg hr, up_s]
      refine ⟨.inr (0, mW w M (up (up (up (up (oF fl' (sqR (ar 5) L (ar 1) u)) 514 (nI u)) 515 (sqR (ar 5) L (ar 1) u).1) 516 (sqR (ar 5) L (ar 1) u).2.1) 500 2) (up (up (up ar' 8 g8) 1 (sqR (ar 5) L (ar 1) u).2.2) 1 (cp 177 ((up (up ar' 8 g8) 1 (sqR (ar 5) L (ar 1) u).2.2) 2) ((up (up ar' 8 g8) 1 (sqR (ar 5) L (ar 1) u).2.2) 1)))), ?_, up (up (up (up (oF fl' (sqR (ar 5) L (ar 1) u)) 514 (nI u)) 515 (sqR (ar 5) L (ar 1) u).1) 516 (sqR (ar 5) L (ar 1) u).2.1) 500 2, (up (up (up ar' 8 g8) 1 (sqR (ar 5) L (ar 1) u).2.2) 1 (cp 177 ((up (up ar' 8 g8) 1 (sqR (ar 5) L (ar 1) u).2.2) 2) ((up (up ar' 8 g8) 1 (sqR (ar 5) L (ar 1) u).2.2) 1))), rfl, up_s _ _ _, ?_, ?_, ?_, ?_, fun c hc => ?_, ar1, ar9⟩
      · dsimp only
        rw [e0, if_neg (nI_ge (by omega) (by omega)), e1, Option.bind_some]
        dsimp only
        rw [if_neg hr]
        refine ob hbk ?_
        have h517 : up (up (oF fl' (sqR (ar 5) L (ar 1) u)) 514 (nI u)) 515 (sqR (ar 5) L (ar 1) u).1 517 = (sqR (ar 5) L (ar 1) u).2.1 := by
          rw [up_n (by omega), up_n (by omega)]
          exact hpos
        rw [if_neg hneg, Option.bind_some, mW_sf, mW_sf, mW_f, h517, mW_sf, m_fails hB, Option.bind_some]
      · rw [up_n (by omega), up_n (by omega), up_n (by omega), up_n (by omega), oF_n (by omega) (by omega)]
        exact h511'
      · rw [up_n (by omega), up_n (by omega), up_n (by omega), up_s]
      · rw [up_n (by omega), up_n (by omega), up_s, if_neg hneg]
      · rw [up_n (by omega), up_s, if_neg hneg]
      · rw [up_n (by omega), up_n (by omega), up_n (by omega), up_n (by omega), oF_n (by omega) (by omega)]
        exact hbase c (by omega) (by omega) (by omega) (by omega) (by omega) (by omega) (by omega) (by omega)
end MAC
