/-! What the constructors leave: class and reference stand together -/
theorem WS.gs {w w' : FW} {d : Nat} (h : WS w d) (g0 : gSame w' w d) (g1 : gSame w' w (d + 1)) : WS w' d := ⟨g0.1.trans h.1, g1.1.trans h.2.1, g1.2.1.trans h.2.2.1, (g0.2.2.2 _ _).trans h.2.2.2.1, fun k hk => by rw [g1.2.2.1]; exact h.2.2.2.2 k hk⟩
theorem TS.gs {w w' : FW} {τ : Nat} (h : TS w τ) (g : ∀ q, τ ≤ q → q < τ + 5 → gSame w' w q) : TS w' τ := by
  obtain ⟨h1, h2, h3, h4, h5, h6, h7⟩ := h
  have g0 := g τ (by omega) (by omega)
  exact ⟨g0.1.trans h1, (g (τ + 3) (by omega) (by omega)).1.trans h2, (g (τ + 4) (by omega) (by omega)).1.trans h3, (g0.2.2.2 _ _).trans h4, (g0.2.2.2 _ _).trans h5, (g0.2.2.2 _ _).trans h6, h7.gs (g _ (by omega) (by omega)) (g _ (by omega) (by omega))⟩
theorem OS.gs {w w' : FW} {o : Nat} (h : OS w o) (g : ∀ q, o ≤ q → q < o + 46 → gSame w' w q) : OS w' o := by
  obtain ⟨a1, a2, a3, a4, a5, a6, a7, a8, a9, a10, a11, a12, a13, a14, a15⟩ := h
  have g0 := g o (by omega) (by omega)
  have g1 := g (o + 1) (by omega) (by omega)
  have g4 := g (o + 4) (by omega) (by omega)
  have g5 := g (o + 5) (by omega) (by omega)
  refine ⟨g0.1.trans a1, g1.1.trans a2, g1.2.1.trans a3, g4.1.trans a4, g4.2.1.trans a5, g5.1.trans a6, g5.2.1.trans a7, (g0.2.2.2 _ _).trans a8, (g0.2.2.2 _ _).trans a9, (g0.2.2.2 _ _).trans a10, (g0.2.2.2 _ _).trans a11, a12.gs (g _ (by omega) (by omega)) (g _ (by omega) (by omega)), fun j hj => (a13 j hj).gs (fun q q1 q2 => g q (by omega) (by omega)), fun j hj => by rw [g1.2.2.2]; exact a14 j hj, fun j k hj hk => by rw [g1.2.2.2, g1.2.2.2]; exact a15 j k hj hk⟩
theorem OR.gs {w w' : FW} {o : Nat} (h : OR w o A0) (g : ∀ q, o ≤ q → q < o + 46 → gSame w' w q) : OR w' o A0 := by
  obtain ⟨a1, a2, a3, a4, a5, a6, am, ap, ad, -⟩ := h
  have g0 := g o (by omega) (by omega)
  have g2 := g (o + 2) (by omega) (by omega)
  have g4 := g (o + 4) (by omega) (by omega)
  have g5 := g (o + 5) (by omega) (by omega)
  exact ⟨(g0.2.2.1 _ _).trans a1, (g0.2.2.1 _ _).trans a2, (g0.2.2.1 _ _).trans a3, (g0.2.2.1 _ _).trans a4, (g0.2.2.1 _ _).trans a5, (g0.2.2.1 _ _).trans a6, fun p hp => (g4.2.2.1 _ _).trans (am p hp), fun p hp => (g5.2.2.1 _ _).trans (ap p hp), ⟨(g2.2.2.1 _ _).trans ad.1, fun k hk => absurd hk (by show ¬ k < 0; omega)⟩, fun t ht => absurd ht (by show ¬ t < 0; omega)⟩
theorem WW_ok (w : FW) (d : Nat) : WS (WW w d (d + 1)) d := by
  have h : ¬ d + 1 = d := by omega
  refine ⟨nA_k (nA w (d + 1) 10 6) d 4 0, (nA_k' (k := 4) (n := 0) h).trans (nA_k w (d + 1) 10 6), (nA_l' (k := 4) (n := 0) h).trans (nA_l w (d + 1) 10 6), gR_s _ _ _ _ _, fun k _ => ?_⟩
  have e : gI (WW w d (d + 1)) 600 (d + 1) k = 0 := (nA_I' (w := nA w (d + 1) 10 6) (a := d) (k := 4) (n := 0) h).trans (nA_I w (d + 1) 10 6 600 k)
  rw [e]
  exact fch_n 0 (by omega)
theorem WT_3 {w : FW} {τ sz q : Nat} (h : ¬ q = τ) : gSame (WT w τ sz) (WT3 w sz) q := ((((gSame.sI h).tr (gSame.sR h)).tr (gSame.sR h)).tr (gSame.sR h)).tr (gSame.nA h)
theorem WT_ok (w : FW) (τ : Nat) : TS (WT w τ (τ + 1)) τ := by
  have W : WS (WT3 w (τ + 1)) (τ + 1) := (WW_ok w (τ + 1)).gs ((WH_off (by omega)).tr (WH_off (by omega))) ((WH_off (by omega)).tr (WH_off (by omega)))
  refine ⟨WT_k _ _ _, ?_, ?_, ?_, ?_, ?_, W.gs (WT_3 (by omega)) (WT_3 (by omega))⟩
  · refine (WT_3 (w := w) (τ := τ) (sz := τ + 1) (q := τ + 3) (by omega)).1.trans ?_
    refine (WH_off (w := WH (WW w (τ + 1) (τ + 1 + 1)) (τ + 1 + 2) (τ + 1 + 3)) (b := τ + 1 + 3) (sz := τ + 1 + 4) (q := τ + 3) (by omega)).1.trans ?_
    exact nA_k (WW w (τ + 1) (τ + 1 + 1)) (τ + 1 + 2) 1 0
  · refine (WT_3 (w := w) (τ := τ) (sz := τ + 1) (q := τ + 4) (by omega)).1.trans ?_
    exact nA_k (WH (WW w (τ + 1) (τ + 1 + 1)) (τ + 1 + 2) (τ + 1 + 3)) (τ + 1 + 3) 1 0
  · show gR (sR (sR (sR (nA (WT3 w (τ + 1)) τ 3 0) 200 τ 0 (τ + 1)) 206 τ 0 (τ + 1 + 2)) 207 τ 0 (τ + 1 + 3)) 200 τ 0 = τ + 1
    rw [gR_n (by omega), gR_n (by omega), gR_s]
  · show gR (sR (sR (sR (nA (WT3 w (τ + 1)) τ 3 0) 200 τ 0 (τ + 1)) 206 τ 0 (τ + 1 + 2)) 207 τ 0 (τ + 1 + 3)) 206 τ 0 = τ + 3
    rw [gR_n (by omega), gR_s]
  · show gR (sR (sR (sR (nA (WT3 w (τ + 1)) τ 3 0) 200 τ 0 (τ + 1)) 206 τ 0 (τ + 1 + 2)) 207 τ 0 (τ + 1 + 3)) 207 τ 0 = τ + 4
    rw [gR_s]
theorem WOt_t (w : FW) (sz : Nat) : ∀ j i, i < j → TS (WOt w sz j) (sz + 5 + 5 * i) := by
  intro j
  induction j with
  | zero => exact fun i hi => by omega
  | succ j ih =>
    intro i hi
    by_cases z : i = j
    · subst z
      have := WT_ok (WOt w sz i) (sz + 5 + 5 * i)
      rw [show sz + 5 + 5 * i + 1 = sz + 6 + 5 * i by omega] at this
      exact this
    · exact (ih i (by omega)).gs (fun q q1 q2 => WT_off (by omega) (by omega))
theorem WOt_3 {w : FW} {sz q : Nat} (h : q < sz + 5) : ∀ j, gSame (WOt w sz j) (WO3 w sz) q
  | 0 => gSame.rf _ _
  | j + 1 => (WT_off (by omega) (by omega)).tr (WOt_3 h j)
theorem WO_t {w : FW} {b sz q : Nat} (h : ¬ q = b) (h1 : ¬ q = sz) (h4 : ¬ q = sz + 4) : gSame (WO w b sz) (WOt w sz 8) q := ((((((gSame.sR h).tr (gSame.sR h)).tr (gSame.sR h)).tr (gSame.sR h)).tr (gSame.nA h)).tr (show gSame _ _ q from gOff.nF _ _ _ _ _ _ q h1)).tr (WOo_off h4 5)
theorem WO_o {w : FW} {b sz q : Nat} (h : ¬ q = b) (h1 : ¬ q = sz) : gSame (WO w b sz) (WOo w sz 5) q := (((((gSame.sR h).tr (gSame.sR h)).tr (gSame.sR h)).tr (gSame.sR h)).tr (gSame.nA h)).tr (show gSame _ _ q from gOff.nF _ _ _ _ _ _ q h1)
theorem WO_f {w : FW} {b sz q : Nat} (h : ¬ q = b) : gSame (WO w b sz) (WOf w sz) q := ((((gSame.sR h).tr (gSame.sR h)).tr (gSame.sR h)).tr (gSame.sR h)).tr (gSame.nA h)
theorem WOo_g (w : FW) (sz : Nat) : ∀ j p, p < j → gI (WOo w sz j) 602 (sz + 4) p = 1 := by
  intro j
  induction j with
  | zero => exact fun p hp => by omega
  | succ j ih =>
    intro p hp
    by_cases z : p = j
    · subst z
      exact gI_s _ _ _ _ _
    · exact (gI_n (by omega)).trans (ih p (by omega))
theorem WOo_k (w : FW) (sz : Nat) : ∀ j, (WOo w sz j).1 = (WOt w sz 8).1 ∧ (WOo w sz j).2.1 = (WOt w sz 8).2.1
  | 0 => ⟨rfl, rfl⟩
  | j + 1 => WOo_k w sz j
theorem WO_ok (w : FW) (o : Nat) : OS (WO w o (o + 1)) o ∧ OR (WO w o (o + 1)) o A0 := by
  have c3 := WO_t (w := w) (b := o) (sz := o + 1) (q := o + 2) (by omega) (by omega) (by omega)
  have c4 := WO_t (w := w) (b := o) (sz := o + 1) (q := o + 3) (by omega) (by omega) (by omega)
  have t2 := c3.tr (WOt_3 (w := w) (sz := o + 1) (q := o + 2) (by omega) 8)
  have t3 := c4.tr (WOt_3 (w := w) (sz := o + 1) (q := o + 3) (by omega) 8)
  have t4 := (WO_t (w := w) (b := o) (sz := o + 1) (q := o + 4) (by omega) (by omega) (by omega)).tr (WOt_3 (w := w) (sz := o + 1) (q := o + 4) (by omega) 8)
  have g5 := WO_o (w := w) (b := o) (sz := o + 1) (q := o + 5) (by omega) (by omega)
  have k5 := WOo_k w (o + 1) 5
  have t5 := WOt_3 (w := w) (sz := o + 1) (q := o + 5) (by omega) 8
  have g1 := WO_f (w := w) (b := o) (sz := o + 1) (q := o + 1) (by omega)
  have W3 : WS (WO3 w (o + 1)) (o + 2) := (WW_ok w (o + 2)).gs ((gSame.nA (by omega)).tr (gSame.nA (by omega))) ((gSame.nA (by omega)).tr (gSame.nA (by omega)))
  have e4 : (WO3 w (o + 1)).1 (o + 4) = 11 ∧ (WO3 w (o + 1)).2.1 (o + 4) = 3 ∧ ∀ c i, gI (WO3 w (o + 1)) c (o + 4) i = 0 := ⟨(nA_k' (by omega)).trans (nA_k _ (o + 4) 11 3), (nA_l' (by omega)).trans (nA_l _ (o + 4) 11 3), fun c i => (nA_I' (by omega)).trans (nA_I _ (o + 4) 11 3 c i)⟩
  have e5 : (WO3 w (o + 1)).1 (o + 5) = 12 ∧ (WO3 w (o + 1)).2.1 (o + 5) = 5 := ⟨nA_k _ (o + 5) 12 5, nA_l _ (o + 5) 12 5⟩
  have r1 : ∀ i, gR (WO w o (o + 1)) 604 (o + 1) i = o + 6 + 5 * i := fun i => (g1.2.2.2 _ _).trans ((nF_R _ (o + 1) 14 8 604 i _).trans (by show o + 1 + 5 + 5 * i = o + 6 + 5 * i; omega))
  have n0 : ∀ c i, gI (WO w o (o + 1)) c o i = 0 := fun c i => nA_I (WOf w (o + 1)) o 2 0 c i
  refine ⟨⟨WO_k _ _ _, g1.1.trans (nF_k _ _ _ _ _ _), g1.2.1.trans (nF_l _ _ _ _ _ _), t4.1.trans e4.1, t4.2.1.trans e4.2.1, ?_, ?_, ?_, ?_, ?_, ?_, W3.gs t2 t3, fun j hj => ?_, fun j hj => ⟨j, hj, r1 j⟩, fun j k hj hk h => ?_⟩, ⟨n0 _ _, n0 _ _, n0 _ _, n0 _ _, n0 _ _, n0 _ _, fun p hp => (t4.2.2.1 _ _).trans (e4.2.2 _ _), fun p hp => ?_, ⟨?_, fun k hk => absurd hk (by show ¬ k < 0; omega)⟩, fun t ht => absurd ht (by show ¬ t < 0; omega)⟩⟩
  · rw [g5.1, k5.1, t5.1]
    exact e5.1
  · rw [g5.2.1, k5.2, t5.2.1]
    exact e5.2
  · show gR (sR (sR (sR (sR (nA (WOf w (o + 1)) o 2 0) 100 o 0 (o + 1)) 102 o 0 (o + 1 + 1)) 103 o 0 (o + 1 + 3)) 104 o 0 (o + 1 + 4)) 100 o 0 = o + 1
    rw [gR_n (by omega), gR_n (by omega), gR_n (by omega), gR_s]
  · show gR (sR (sR (sR (sR (nA (WOf w (o + 1)) o 2 0) 100 o 0 (o + 1)) 102 o 0 (o + 1 + 1)) 103 o 0 (o + 1 + 3)) 104 o 0 (o + 1 + 4)) 102 o 0 = o + 2
    rw [gR_n (by omega), gR_n (by omega), gR_s]
  · show gR (sR (sR (sR (sR (nA (WOf w (o + 1)) o 2 0) 100 o 0 (o + 1)) 102 o 0 (o + 1 + 1)) 103 o 0 (o + 1 + 3)) 104 o 0 (o + 1 + 4)) 103 o 0 = o + 4
    rw [gR_n (by omega), gR_s]
  · show gR (sR (sR (sR (sR (nA (WOf w (o + 1)) o 2 0) 100 o 0 (o + 1)) 102 o 0 (o + 1 + 1)) 103 o 0 (o + 1 + 3)) 104 o 0 (o + 1 + 4)) 104 o 0 = o + 5
    rw [gR_s]
  · have := WOt_t w (o + 1) 8 j hj
    rw [show o + 1 + 5 + 5 * j = o + 6 + 5 * j by omega] at this
    exact this.gs (fun q q1 q2 => WO_t (by omega) (by omega) (by omega))
  · rw [r1, r1] at h
    omega
  · rw [g5.2.2.1, if_pos (A0_s p hp)]
    exact WOo_g w (o + 1) 5 p hp
  · have h2 : gI (WO3 w (o + 1)) 301 (o + 2) 0 = 0 := by
      have ga : gSame (WO3 w (o + 1)) (WW w (o + 2) (o + 2 + 1)) (o + 2) := (gSame.nA (by omega)).tr (gSame.nA (by omega))
      rw [ga.2.2.1]
      exact nA_I (nA w (o + 2 + 1) 10 6) (o + 2) 4 0 301 0
    exact (t2.2.2.1 _ _).trans h2
