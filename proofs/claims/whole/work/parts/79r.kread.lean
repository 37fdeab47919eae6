/-! read, class and reference together -/
theorem ref_same {w w' : FW} {x : Nat} (hB : MB w (x + 512)) (k : w'.1 = w.1) (l : w'.2.1 = w.2.1) (g : ∀ c a i, x + 512 ≤ a → gI w' c a i = gI w c a i) (r : ∀ c a i, x + 512 ≤ a → gR w' c a i = gR w c a i) : MB w' (x + 512) ∧ w' = mW w' (x + 512) (flW w (x + 512)) (arW w (x + 512)) := by
  have m1 : MB w' (x + 512) := by
    unfold MB
    rw [k, l, r _ _ _ (by omega), r _ _ _ (by omega), r _ _ _ (by omega), r _ _ _ (by omega), r _ _ _ (by omega), r _ _ _ (by omega), r _ _ _ (by omega), r _ _ _ (by omega)]
    exact hB
  have m2 : flW w' (x + 512) = flW w (x + 512) := by funext c; exact g _ _ _ (by omega)
  have m3 : arW w' (x + 512) = arW w (x + 512) := by funext k i; exact g _ _ _ (by omega)
  refine ⟨m1, ?_⟩
  rw [← m2, ← m3]
  exact (mW_me w' _).symm
theorem ch_ne : ∀ c, c < 127 → ¬ nI c = -1 := by decide +kernel
theorem k_read {b x : Nat} {w : FW} (hJ : JJ b w x) (hb : b < 99000) : KJ (b + 60) x [1, 4] (F_X4_read x) (F_X5_read (x + 512)) w := by
  obtain ⟨hB, n, J⟩ := hJ
  obtain ⟨C, h5, hN, hD⟩ := id J
  obtain ⟨n1, n2, n3, n4, ⟨L, L1, L2, L3, L4⟩, ⟨K, b1, b2, b3, b4⟩⟩ := hN
  have h8 : n ≤ 8 := C.2.2.2.2.1
  have hA := C.2.2.1
  have B : BU w x L (arW w (x + 512) 5) := by
    obtain ⟨a1, a2, a3, a4, a5, a6, a7, a8, a9, a10, -⟩ := C.1
    exact ⟨a1, a8, a9, a10, L2, L1, fun i hi => ⟨(L4 i hi).1, by obtain ⟨c, c1, c2, c3⟩ := (L4 i hi).2; rw [c3]; exact fch_n c (by omega)⟩⟩
  have hfr : ∀ i, i < L → ∃ c, 32 ≤ c ∧ c ≤ 126 ∧ arW w (x + 512) 5 i = nI c := fun i hi => (L4 i hi).2
  have hne : ∀ i, i < L → ¬ arW w (x + 512) 5 i = -1 := fun i hi => by
    obtain ⟨c, c1, c2, c3⟩ := hfr i hi
    rw [c3]
    exact ch_ne c (by omega)
  obtain ⟨m, hm, h1, h2, h3⟩ := parse_m (f := arW w (x + 512) 5) L1
  have hDu := hD.up (show b ≤ b + 60 by omega)
  by_cases hok : eoo (arW w (x + 512) 5) L (psN (arW w (x + 512) 5) L m) = .inl L
  · obtain ⟨T, -, hgT⟩ := m_parse (fl := flW w (x + 512)) (ar := arW w (x + 512)) hB L3 L1 hne hm h1 h2 h3
    have hg : ∀ k, k ≤ m → OG (arW w (x + 512) 5) L (psN (arW w (x + 512) 5) L k) (enN (arW w (x + 512) 5) L k) T k := fun k hk => by
      by_cases z : k = m
      · subst z
        refine hgT k hk _ ?_
        unfold enN
        rw [hok]
        rfl
      · exact hgT k hk _ (h2 k (by omega)).1
    obtain ⟨d, d1, d2⟩ := hD.1
    have hsq := sq_w hA hg d2 (by omega)
    have hW : ∀ i, i ≤ m + 1 → WA (sqA (arW w (x + 512) 5) L (arW w (x + 512) 1) i) := fun i hi => (hsq i hi).1
    rcases find_r (P := fun i => ¬ (sqR (arW w (x + 512) 5) L (arW w (x + 512) 1) i).1 = 0) (m + 1) with ⟨u, -, hu, hr, hz⟩ | ⟨-, hz⟩
    · have hz' : ∀ i, i < u → (sqR (arW w (x + 512) 5) L (arW w (x + 512) 1) i).1 = 0 := fun i hi => Classical.not_not.mp (hz i hi)
      obtain ⟨w', e, C', g408, g414, g411, g412, gN, gl, k, l, g, r⟩ := c_read_no C B hfr hm h1 h2 h3 hok hg hW (show u ≤ m by omega) hz' hr
      obtain ⟨m1, ew⟩ := ref_same hB k l g r
      obtain ⟨fl', ar', em, q500, q511, q514, q515, q516, qf, q1, qa⟩ := m_read_no (fl := flW w (x + 512)) (ar := arW w (x + 512)) m1 L3 L1 hne hm h1 h2 h3 hok (show u ≤ m by omega) (fun i hi => hW i (by omega)) hz' hr
      rw [← ew] at em
      refine ⟨_, ⟨.inr 4, w', 0, 2, e, em, ?_, fun e he => by cases he; decide, rfl, fun v hv => by cases hv⟩, JJ.mk m1 (n := n) ⟨?_, ?_, ?_, ?_⟩⟩
      · rw [m_thrown m1, q500]
      · rw [qf 506 (by omega), qa 3 (by omega), qa 4 (by omega)]
        exact C'.cg q1
      · rw [qf 505 (by omega)]
        exact h5
      · refine ⟨?_, ?_, ?_, g414.trans q514.symm, ⟨0, by omega, g408, q511, fun i hi => by omega⟩, ⟨K, b1, (gN 410 (by omega) (by omega) (by omega) (by omega) (by omega)).trans b2, (qf 512 (by omega)).trans b3, fun i hi => ?_⟩⟩
        · rw [g411, q515, n1]
        · rw [g412, q516, n2]
        · rw [gN 413 (by omega) (by omega) (by omega) (by omega) (by omega), qf 513 (by omega)]
          exact n3
        · rw [gl _ (Or.inr rfl), qa 7 (by omega)]
          exact b4 i hi
      · refine ⟨hDu.1.cg (q1 1 (by omega)), fun i hi => ?_, fun z => ?_⟩
        · rw [qa 4 (by omega)]
          exact hDu.2.1 i hi
        · rw [qf 506 (by omega)] at z
          rw [qa 3 (by omega)]
          exact hDu.2.2 z
    · have hz' : ∀ i, i ≤ m → (sqR (arW w (x + 512) 5) L (arW w (x + 512) 1) i).1 = 0 := fun i hi => Classical.not_not.mp (hz i (by omega))
      obtain ⟨w', e, C', g408, gN, gl, k, l, g, r⟩ := c_read_ok (F := cp 177 (arW w (x + 512) 1) (arW w (x + 512) 2)) C B hfr hm h1 h2 h3 hok hg hW hz' (fun k hk => cp_l hk)
      obtain ⟨m1, ew⟩ := ref_same hB k l g r
      obtain ⟨fl', ar', em, q500, q511, q505, qf, q1, q4, qa⟩ := m_read_ok (fl := flW w (x + 512)) (ar := arW w (x + 512)) m1 L3 L1 hne hm h1 h2 h3 hok hW hz' h5 h8
      rw [← ew] at em
      refine ⟨_, ⟨.inl (nI (m + 1)), w', nI (m + 1), 0, e, em, ?_, fun e he => (by cases he), rfl, fun v hv => by cases hv; rfl⟩, JJ.mk m1 (n := if n = 8 then 8 else n + 1) ⟨?_, q505, ?_, ?_⟩⟩
      · rw [m_thrown m1, q500]
      · rw [qf 506 (by omega), q1, q4, qa 3 (by omega)]
        exact C'
      · refine ⟨?_, ?_, ?_, ?_, ⟨0, by omega, g408, q511, fun i hi => by omega⟩, ⟨K, b1, (gN 410 (by omega) (by omega)).trans b2, (qf 512 (by omega)).trans b3, fun i hi => ?_⟩⟩
        · rw [gN 411 (by omega) (by omega), qf 515 (by omega)]
          exact n1
        · rw [gN 412 (by omega) (by omega), qf 516 (by omega)]
          exact n2
        · rw [gN 413 (by omega) (by omega), qf 513 (by omega)]
          exact n3
        · rw [gN 414 (by omega) (by omega), qf 514 (by omega)]
          exact n4
        · rw [gl _ (Or.inr rfl), qa 7 (by omega)]
          exact b4 i hi
      · obtain ⟨-, d', d3, d4⟩ := hsq (m + 1) (Nat.le_refl _)
        exact hDu.push h8 (cp_l (by omega)) (qf 506 (by omega)) q1 ⟨d', by omega, d4⟩ (qa 3 (by omega)) q4
  · have e := c_read_bad C B hm h1 h2 h3 hok
    have g : ∀ c a i, ¬ a = x → gI (sI (sI w 408 x 0 0) 413 x 0 (fltV (arW w (x + 512) 5) L m)) c a i = gI w c a i := fun c a i h => by
      rw [gI_sI, if_neg (by omega), gI_sI, if_neg (by omega)]
    have gN : ∀ c, ¬ c = 408 → ¬ c = 413 → gI (sI (sI w 408 x 0 0) 413 x 0 (fltV (arW w (x + 512) 5) L m)) c x 0 = gI w c x 0 := fun c c1 c2 => by
      rw [gI_sI, if_neg (by omega), gI_sI, if_neg (by omega)]
    obtain ⟨m1, ew⟩ := ref_same (w' := sI (sI w 408 x 0 0) 413 x 0 (fltV (arW w (x + 512) 5) L m)) hB rfl rfl (fun c a i ha => g c a i (by omega)) (fun _ _ _ _ => rfl)
    obtain ⟨fl', ar', em, q500, q513, q511, qf, qa⟩ := m_read_bad (fl := flW w (x + 512)) (ar := arW w (x + 512)) m1 L3 L1 hne hm h1 h2 h3 hok
    rw [← ew] at em
    refine ⟨_, ⟨.inr 1, _, 0, 1, e, em, ?_, fun e he => by cases he; decide, rfl, fun v hv => by cases hv⟩, JJ.mk m1 (n := n) ⟨?_, ?_, ?_, ?_⟩⟩
    · rw [m_thrown m1, q500]
    · rw [qf 506 (by omega), qa 1 (by omega), qa 3 (by omega), qa 4 (by omega)]
      exact (C.nm _ (by omega) (by omega) (by omega)).nm _ (by omega) (by omega) (by omega)
    · rw [qf 505 (by omega)]
      exact h5
    · refine ⟨?_, ?_, ?_, ?_, ⟨0, by omega, ?_, q511, fun i hi => by omega⟩, ⟨K, b1, (gN 410 (by omega) (by omega)).trans b2, (qf 512 (by omega)).trans b3, fun i hi => ?_⟩⟩
      · rw [gN 411 (by omega) (by omega), qf 515 (by omega)]
        exact n1
      · rw [gN 412 (by omega) (by omega), qf 516 (by omega)]
        exact n2
      · rw [gI_s]
        exact q513.symm
      · rw [gN 414 (by omega) (by omega), qf 514 (by omega)]
        exact n4
      · rw [gI_sI, if_neg (by omega), gI_s]
        rfl
      · rw [g _ _ _ (by omega), qa 7 (by omega)]
        exact b4 i hi
    · refine ⟨hDu.1.cg (congrFun (qa 1 (by omega)) 1), fun i hi => ?_, fun z => ?_⟩
      · rw [qa 4 (by omega)]
        exact hDu.2.1 i hi
      · rw [qf 506 (by omega)] at z
        rw [qa 3 (by omega)]
        exact hDu.2.2 z
