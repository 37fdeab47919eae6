/-! What the constructors leave: class and reference stand together -/
theorem WS.gs {w w' : FW} {d : Nat} (h : WS w d) (g0 : gSame w' w d) (g1 : gSame w' w (d + 1)) : WS w' d := ⟨g0.1.trans h.1, g1.1.trans h.2.1, g1.2.1.trans h.2.2.1, (g0.2.2.2 _ _).trans h.2.2.2.1, fun k hk => by rw [g1.2.2.1]; exact h.2.2.2.2 k hk⟩
theorem TS.gs {w w' : FW} {τ : Nat} (h : TS w τ) (g : ∀ q, τ ≤ q → q < τ + 5 → gSame w' w q) : TS w' τ := by
  obtain ⟨h1, h2, h3, h4, h5, h6, h7⟩ := h
  have g0 := g τ (by omega) (by omega)
  exact ⟨g0.1.trans h1, (g (τ + 3) (by omega) (by omega)).1.trans h2, (g (τ + 4) (by omega) (by omega)).1.trans h3, (g0.2.2.2 _ _).trans h4, (g0.2.2.2 _ _).trans h5, (g0.2.2.2 _ _).trans h6, h7.gs (g _ (by omega) (by omega)) (g _ (by omega) (by omega))⟩
theorem OS.gs {w w' : FW} {o : Nat} (h : OS w o) (g : ∀ q, o ≤ q → q < o + 46 → gSame w' w q) : OS w' o := by
  obtain ⟨a1, a2, a3, a4, a5, a6, a7, a8, a9, a10, a11, a12, a13, a14, a15⟩ := h
  have g0 := g o (by omega) (by omega)
  have g1 := g (o + 1) (by omega) (by omega)
  have g4 := g (o + 4) (by omega) (by omega)
  have g5 := g (o + 5) (by omega) (by omega)
  refine ⟨g0.1.trans a1, g1.1.trans a2, g1.2.1.trans a3, g4.1.trans a4, g4.2.1.trans a5, g5.1.trans a6, g5.2.1.trans a7, (g0.2.2.2 _ _).trans a8, (g0.2.2.2 _ _).trans a9, (g0.2.2.2 _ _).trans a10, (g0.2.2.2 _ _).trans a11, a12.gs (g _ (by omega) (by omega)) (g _ (by omega) (by omega)), fun j hj => (a13 j hj).gs (fun q q1 q2 => g q (by omega) (by omega)), fun j hj => by rw [g1.2.2.2]; exact a14 j hj, fun j k hj hk => by rw [g1.2.2.2, g1.2.2.2]; exact a15 j k hj hk⟩
theorem OR.gs {w w' : FW} {o : Nat} (h : OR w o A0) (g : ∀ q, o ≤ q → q < o + 46 → gSame w' w q) : OR w' o A0 := by
  obtain ⟨a1, a2, a3, a4, a5, a6, am, ap, ad, -⟩ := h
  have g0 := g o (by omega) (by omega)
  have g2 := g (o + 2) (by omega) (by omega)
  have g4 := g (o + 4) (by omega) (by omega)
  have g5 := g (o + 5) (by omega) (by omega)
  exact ⟨(g0.2.2.1 _ _).trans a1, (g0.2.2.1 _ _).trans a2, (g0.2.2.1 _ _).trans a3, (g0.2.2.1 _ _).trans a4, (g0.2.2.1 _ _).trans a5, (g0.2.2.1 _ _).trans a6, fun p hp => (g4.2.2.1 _ _).trans (am p hp), fun p hp => (g5.2.2.1 _ _).trans (ap p hp), ⟨(g2.2.2.1 _ _).trans ad.1, fun k hk => absurd hk (by show ¬ k < 0; omega)⟩, fun t ht => absurd ht (by show ¬ t < 0; omega)⟩
theorem WW_ok (w : FW) (d : Nat) : WS (WW w d (d + 1)) d := by
  have h : ¬ d + 1 = d := by omega
  refine ⟨nA_k (nA w (d + 1) 10 6) d 4 0, (nA_k' h).trans (nA_k w (d + 1) 10 6), (nA_l' h).trans (nA_l w (d + 1) 10 6), gR_s _ _ _ _ _, fun k _ => ?_⟩
  have e : gI (WW w d (d + 1)) 600 (d + 1) k = 0 := (nA_I' (w := nA w (d + 1) 10 6) (a := d) (k := 4) (n := 0) h).trans (nA_I w (d + 1) 10 6 600 k)
  rw [e]
  exact fch_n 0 (by omega)
theorem WT_3 {w : FW} {τ sz q : Nat} (h : ¬ q = τ) : gSame (WT w τ sz) (WT3 w sz) q := ((((gSame.sI h).tr (gSame.sR h)).tr (gSame.sR h)).tr (gSame.sR h)).tr (gSame.nA h)
theorem WT_ok (w : FW) (τ : Nat) : TS (WT w τ (τ + 1)) τ := by
  have W : WS (WT3 w (τ + 1)) (τ + 1) := (WW_ok w (τ + 1)).gs ((WH_off (by omega)).tr (WH_off (by omega))) ((WH_off (by omega)).tr (WH_off (by omega)))
  refine ⟨WT_k _ _ _, ?_, ?_, ?_, ?_, ?_, W.gs (WT_3 (by omega)) (WT_3 (by omega))⟩
  · refine (WT_3 (w := w) (τ := τ) (sz := τ + 1) (q := τ + 3) (by omega)).1.trans ?_
    refine (WH_off (w := WH (WW w (τ + 1) (τ + 1 + 1)) (τ + 1 + 2) (τ + 1 + 3)) (b := τ + 1 + 3) (sz := τ + 1 + 4) (q := τ + 3) (by omega)).1.trans ?_
    exact nA_k (WW w (τ + 1) (τ + 1 + 1)) (τ + 1 + 2) 1 0
  · refine (WT_3 (w := w) (τ := τ) (sz := τ + 1) (q := τ + 4) (by omega)).1.trans ?_
    exact nA_k (WH (WW w (τ + 1) (τ + 1 + 1)) (τ + 1 + 2) (τ + 1 + 3)) (τ + 1 + 3) 1 0
  · show gR (sR (sR (sR (nA (WT3 w (τ + 1)) τ 3 0) 200 τ 0 (τ + 1)) 206 τ 0 (τ + 1 + 2)) 207 τ 0 (τ + 1 + 3)) 200 τ 0 = τ + 1
    rw [gR_n (by omega), gR_n (by omega), gR_s]
  · show gR (sR (sR (sR (nA (WT3 w (τ + 1)) τ 3 0) 200 τ 0 (τ + 1)) 206 τ 0 (τ + 1 + 2)) 207 τ 0 (τ + 1 + 3)) 206 τ 0 = τ + 3
    rw [gR_n (by omega), gR_s]
  · show gR (sR (sR (sR (nA (WT3 w (τ + 1)) τ 3 0) 200 τ 0 (τ + 1)) 206 τ 0 (τ + 1 + 2)) 207 τ 0 (τ + 1 + 3)) 207 τ 0 = τ + 4
    rw [gR_s]
theorem WOt_t (w : FW) (sz : Nat) : ∀ j i, i < j → TS (WOt w sz j) (sz + 5 + 5 * i) := by
  intro j
  induction j with
  | zero => exact fun i hi => by omega
  | succ j ih =>
    intro i hi
    by_cases z : i = j
    · subst z
      have := WT_ok (WOt w sz i) (sz + 5 + 5 * i)
      rw [show sz + 5 + 5 * i + 1 = sz + 6 + 5 * i by omega] at this
      exact this
    · exact (ih i (by omega)).gs (fun q q1 q2 => WT_off (by omega) (by omega))
theorem WOt_3 {w : FW} {sz q : Nat} (h : q < sz + 5) : ∀ j, gSame (WOt w sz j) (WO3 w sz) q
  | 0 => gSame.rf _ _
  | j + 1 => (WT_off (by omega) (by omega)).tr (WOt_3 h j)
theorem WO_t {w : FW} {b sz q : Nat} (h : ¬ q = b) (h1 : ¬ q = sz) (h4 : ¬ q = sz + 4) : gSame (WO w b sz) (WOt w sz 8) q := ((((((gSame.sR h).tr (gSame.sR h)).tr (gSame.sR h)).tr (gSame.sR h)).tr (gSame.nA h)).tr (show gSame _ _ q from gOff.nF _ _ _ _ _ _ q h1)).tr (WOo_off h4 5)
theorem WO_o {w : FW} {b sz q : Nat} (h : ¬ q = b) (h1 : ¬ q = sz) : gSame (WO w b sz) (WOo w sz 5) q := (((((gSame.sR h).tr (gSame.sR h)).tr (gSame.sR h)).tr (gSame.sR h)).tr (gSame.nA h)).tr (show gSame _ _ q from gOff.nF _ _ _ _ _ _ q h1)
theorem WO_f {w : FW} {b sz q : Nat} (h : ¬ q = b) : gSame (WO w b sz) (WOf w sz) q := ((((gSame.sR h).tr (gSame.sR h)).tr (gSame.sR h)).tr (gSame.sR h)).tr (gSame.nA h)
theorem WOo_g (w : FW) (sz : Nat) : ∀ j p, p < j → gI (WOo w sz j) 602 (sz + 4) p = 1 := by
  intro j
  induction j with
  | zero => exact fun p hp => by omega
  | succ j ih =>
    intro p hp
    by_cases z : p = j
    · subst z
      exact gI_s _ _ _ _ _
    · exact (gI_n (by omega)).trans (ih p (by omega))
theorem WOo_k (w : FW) (sz : Nat) : ∀ j, (WOo w sz j).1 = (WOt w sz 8).1 ∧ (WOo w sz j).2.1 = (WOt w sz 8).2.1
  | 0 => ⟨rfl, rfl⟩
  | j + 1 => WOo_k w sz j
theorem WO_ok (w : FW) (o : Nat) : OS (WO w o (o + 1)) o ∧ OR (WO w o (o + 1)) o A0 := by
  have c3 := WO_t (w := w) (b := o) (sz := o + 1) (q := o + 2) (by omega) (by omega) (by omega)
  have c4 := WO_t (w := w) (b := o) (sz := o + 1) (q := o + 3) (by omega) (by omega) (by omega)
  have t2 := c3.tr (WOt_3 (w := w) (sz := o + 1) (q := o + 2) (by omega) 8)
  have t3 := c4.tr (WOt_3 (w := w) (sz := o + 1) (q := o + 3) (by omega) 8)
  have t4 := (WO_t (w := w) (b := o) (sz := o + 1) (q := o + 4) (by omega) (by omega) (by omega)).tr (WOt_3 (w := w) (sz := o + 1) (q := o + 4) (by omega) 8)
  have g5 := WO_o (w := w) (b := o) (sz := o + 1) (q := o + 5) (by omega) (by omega)
  have k5 := WOo_k w (o + 1) 5
  have t5 := WOt_3 (w := w) (sz := o + 1) (q := o + 5) (by omega) 8
  have g1 := WO_f (w := w) (b := o) (sz := o + 1) (q := o + 1) (by omega)
  have W3 : WS (WO3 w (o + 1)) (o + 2) := (WW_ok w (o + 2)).gs ((gSame.nA (by omega)).tr (gSame.nA (by omega))) ((gSame.nA (by omega)).tr (gSame.nA (by omega)))
  have e4 : (WO3 w (o + 1)).1 (o + 4) = 11 ∧ (WO3 w (o + 1)).2.1 (o + 4) = 3 ∧ ∀ c i, gI (WO3 w (o + 1)) c (o + 4) i = 0 := ⟨(nA_k' (by omega)).trans (nA_k _ (o + 4) 11 3), (nA_l' (by omega)).trans (nA_l _ (o + 4) 11 3), fun c i => (nA_I' (by omega)).trans (nA_I _ (o + 4) 11 3 c i)⟩
  have e5 : (WO3 w (o + 1)).1 (o + 5) = 12 ∧ (WO3 w (o + 1)).2.1 (o + 5) = 5 := ⟨nA_k _ (o + 5) 12 5, nA_l _ (o + 5) 12 5⟩
  have r1 : ∀ i, gR (WO w o (o + 1)) 604 (o + 1) i = o + 6 + 5 * i := fun i => (g1.2.2.2 _ _).trans ((nF_R _ (o + 1) 14 8 604 i _).trans (by omega))
  have n0 : ∀ c i, gI (WO w o (o + 1)) c o i = 0 := fun c i => nA_I (WOf w (o + 1)) o 2 0 c i
  refine ⟨⟨WO_k _ _ _, g1.1.trans (nF_k _ _ _ _ _ _), g1.2.1.trans (nF_l _ _ _ _ _ _), t4.1.trans e4.1, t4.2.1.trans e4.2.1, ?_, ?_, ?_, ?_, ?_, ?_, W3.gs t2 t3, fun j hj => ?_, fun j hj => ⟨j, hj, r1 j⟩, fun j k hj hk h => ?_⟩, ⟨n0 _ _, n0 _ _, n0 _ _, n0 _ _, n0 _ _, n0 _ _, fun p hp => (t4.2.2.1 _ _).trans (e4.2.2 _ _), fun p hp => ?_, ⟨?_, fun k hk => absurd hk (by show ¬ k < 0; omega)⟩, fun t ht => absurd ht (by show ¬ t < 0; omega)⟩⟩
  · rw [g5.1, k5.1, t5.1]
    exact e5.1
  · rw [g5.2.1, k5.2, t5.2.1]
    exact e5.2
  · show gR (sR (sR (sR (sR (nA (WOf w (o + 1)) o 2 0) 100 o 0 (o + 1)) 102 o 0 (o + 1 + 1)) 103 o 0 (o + 1 + 3)) 104 o 0 (o + 1 + 4)) 100 o 0 = o + 1
    rw [gR_n (by omega), gR_n (by omega), gR_n (by omega), gR_s]
  · show gR (sR (sR (sR (sR (nA (WOf w (o + 1)) o 2 0) 100 o 0 (o + 1)) 102 o 0 (o + 1 + 1)) 103 o 0 (o + 1 + 3)) 104 o 0 (o + 1 + 4)) 102 o 0 = o + 2
    rw [gR_n (by omega), gR_n (by omega), gR_s]
  · show gR (sR (sR (sR (sR (nA (WOf w (o + 1)) o 2 0) 100 o 0 (o + 1)) 102 o 0 (o + 1 + 1)) 103 o 0 (o + 1 + 3)) 104 o 0 (o + 1 + 4)) 103 o 0 = o + 4
    rw [gR_n (by omega), gR_s]
  · show gR (sR (sR (sR (sR (nA (WOf w (o + 1)) o 2 0) 100 o 0 (o + 1)) 102 o 0 (o + 1 + 1)) 103 o 0 (o + 1 + 3)) 104 o 0 (o + 1 + 4)) 104 o 0 = o + 5
    rw [gR_s]
  · have := WOt_t w (o + 1) 8 j hj
    rw [show o + 1 + 5 + 5 * j = o + 6 + 5 * j by omega] at this
    exact this.gs (fun q q1 q2 => WO_t (by omega) (by omega) (by omega))
  · rw [r1, r1] at h
    omega
  · rw [g5.2.2.1, if_pos (A0_s p hp)]
    exact WOo_g w (o + 1) 5 p hp
  · have h2 : gI (WO3 w (o + 1)) 301 (o + 2) 0 = 0 := by
      have ga : gSame (WO3 w (o + 1)) (WW w (o + 2) (o + 2 + 1)) (o + 2) := (gSame.nA (by omega)).tr (gSame.nA (by omega))
      rw [ga.2.2.1]
      exact nA_I (nA w (o + 2 + 1) 10 6) (o + 2) 4 0 301 0
    exact (t2.2.2.1 _ _).trans h2
theorem WCp_up {w : FW} {sz q : Nat} (j : Nat) (h : q < sz + 143 + 46 * j) : ∀ k, gSame (WCp w sz (j + k)) (WCp w sz j) q
  | 0 => gSame.rf _ _
  | k + 1 => (WO_off (by omega) (by omega)).tr (WCp_up j h k)
theorem WC_p {w : FW} {b sz q : Nat} (h : ¬ q = b) (h1 : ¬ q = sz + 138) : gSame (WC w b sz) (WCp w sz 8) q := ((((((((((gSame.sI h).tr (gSame.sI h)).tr (gSame.sR h)).tr (gSame.sR h)).tr (gSame.sR h)).tr (gSame.sR h)).tr (gSame.sR h)).tr (gSame.sR h)).tr (gSame.sR h)).tr (gSame.nA h)).tr (show gSame _ _ q from gOff.nF _ _ _ _ _ _ q h1)
section WINI
variable (x : Nat)
theorem wI_c {q : Nat} (h : q < x + 512) : gSame (wI x) (WC w0 x (x + 1)) q := WM_off (by omega) (by omega)
theorem wI_p {q : Nat} (h : x < q) (h1 : ¬ q = x + 139) (h2 : q < x + 512) : gSame (wI x) (WCp w0 (x + 1) 8) q := (wI_c x h2).tr (WC_p (by omega) (by omega))
theorem wI_6 {q : Nat} (h : x < q) (h2 : q < x + 144) (h1 : ¬ q = x + 139) : gSame (wI x) (WC6 w0 (x + 1)) q := (wI_p x h h1 (by omega)).tr (WCp_up 0 (by omega) 8)
theorem wI_o (i : Nat) (hi : i < 11) : OS (wI x) (bs x i) ∧ OR (wI x) (bs x i) A0 := by
  have fin : ∀ (w' : FW) (o : Nat), o = bs x i → (∀ q, o ≤ q → q < o + 46 → gSame (wI x) (WO w' o (o + 1)) q) → OS (wI x) (bs x i) ∧ OR (wI x) (bs x i) A0 := by
    intro w' o e g
    rw [← e]
    exact ⟨(WO_ok w' o).1.gs g, (WO_ok w' o).2.gs g⟩
  by_cases h : i < 3
  · have eb : bs x i = x + 1 + 46 * i := if_pos h
    have h6 : ∀ q, x < q → q < x + 139 → gSame (wI x) (WC3 w0 (x + 1)) q := fun q q1 q2 => (wI_6 x q1 (by omega) (by omega)).tr (WC6_off (by omega))
    rcases (show i = 0 ∨ i = 1 ∨ i = 2 by omega) with rfl | rfl | rfl
    · exact fin w0 (x + 1) eb.symm (fun q q1 q2 => (h6 q (by omega) (by omega)).tr ((WO_off (by omega) (by omega)).tr (WO_off (by omega) (by omega))))
    · exact fin (WO w0 (x + 1) (x + 1 + 1)) (x + 1 + 46) eb.symm (fun q q1 q2 => (h6 q (by omega) (by omega)).tr (WO_off (by omega) (by omega)))
    · exact fin (WO (WO w0 (x + 1) (x + 1 + 1)) (x + 1 + 46) (x + 1 + 47)) (x + 1 + 92) (by rw [eb]) (fun q q1 q2 => h6 q (by omega) (by omega))
  · have eb : bs x i = x + 144 + 46 * (i - 3) := if_neg h
    refine fin (WCp w0 (x + 1) (i - 3)) (x + 1 + 143 + 46 * (i - 3)) (by rw [eb]) (fun q q1 q2 => ?_)
    have h1 := wI_p x (q := q) (by omega) (by omega) (by omega)
    have h2 := WCp_up (w := w0) (sz := x + 1) (q := q) (i - 3 + 1) (by omega) (8 - (i - 3 + 1))
    rw [show i - 3 + 1 + (8 - (i - 3 + 1)) = 8 by omega] at h2
    have h3 := h1.tr h2
    have e9 : WCp w0 (x + 1) (i - 3 + 1) = WO (WCp w0 (x + 1) (i - 3)) (x + 1 + 143 + 46 * (i - 3)) (x + 1 + 144 + 46 * (i - 3)) := rfl
    rw [e9, show x + 1 + 144 + 46 * (i - 3) = x + 1 + 143 + 46 * (i - 3) + 1 by omega] at h3
    exact h3
theorem wI_M (c : Nat) (h : ¬ c = 513) (h1 : ¬ c = 514) : gI (wI x) c (x + 512) 0 = 0 := by
  show gI (sI (sI (sR (sR (sR (sR (sR (sR (sR (sR (nA (WM8 (WC w0 x (x + 1)) (x + 513)) (x + 512) 6 0) 501 (x + 512) 0 (x + 513)) 502 (x + 512) 0 (x + 513 + 1)) 503 (x + 512) 0 (x + 513 + 2)) 504 (x + 512) 0 (x + 513 + 3)) 507 (x + 512) 0 (x + 513 + 4)) 508 (x + 512) 0 (x + 513 + 5)) 509 (x + 512) 0 (x + 513 + 6)) 510 (x + 512) 0 (x + 513 + 7)) 513 (x + 512) 0 (-1)) 514 (x + 512) 0 (-1)) c (x + 512) 0 = 0
  rw [gI_n (by omega), gI_n (by omega)]
  exact nA_I (WM8 (WC w0 x (x + 1)) (x + 513)) (x + 512) 6 0 c 0
theorem wI_x (c : Nat) (h : ¬ c = 413) (h1 : ¬ c = 414) : gI (wI x) c x 0 = 0 := by
  rw [(wI_c x (q := x) (by omega)).2.2.1]
  show gI (sI (sI (sR (sR (sR (sR (sR (sR (sR (nA (WCf w0 (x + 1)) x 5 0) 400 x 0 (x + 1)) 401 x 0 (x + 1 + 46)) 402 x 0 (x + 1 + 92)) 404 x 0 (x + 1 + 138)) 406 x 0 (x + 1 + 139)) 407 x 0 (x + 1 + 141)) 409 x 0 (x + 1 + 142)) 413 x 0 (-1)) 414 x 0 (-1)) c x 0 = 0
  rw [gI_n (by omega), gI_n (by omega)]
  exact nA_I (WCf w0 (x + 1)) x 5 0 c 0
theorem wI_ref : gR (wI x) 400 x 0 = x + 1 ∧ gR (wI x) 401 x 0 = x + 47 ∧ gR (wI x) 402 x 0 = x + 93 ∧ gR (wI x) 404 x 0 = x + 139 ∧ gR (wI x) 406 x 0 = x + 140 ∧ gR (wI x) 407 x 0 = x + 142 ∧ gR (wI x) 409 x 0 = x + 143 := by
  have e : ∀ c, gR (wI x) c x 0 = gR (sR (sR (sR (sR (sR (sR (sR (nA (WCf w0 (x + 1)) x 5 0) 400 x 0 (x + 1)) 401 x 0 (x + 1 + 46)) 402 x 0 (x + 1 + 92)) 404 x 0 (x + 1 + 138)) 406 x 0 (x + 1 + 139)) 407 x 0 (x + 1 + 141)) 409 x 0 (x + 1 + 142)) c x 0 := fun c => (wI_c x (q := x) (by omega)).2.2.2 c 0
  refine ⟨?_, ?_, ?_, ?_, ?_, ?_, ?_⟩
  · rw [e, gR_n (by omega), gR_n (by omega), gR_n (by omega), gR_n (by omega), gR_n (by omega), gR_n (by omega), gR_s]
  · rw [e, gR_n (by omega), gR_n (by omega), gR_n (by omega), gR_n (by omega), gR_n (by omega), gR_s]
  · rw [e, gR_n (by omega), gR_n (by omega), gR_n (by omega), gR_n (by omega), gR_s]
  · rw [e, gR_n (by omega), gR_n (by omega), gR_n (by omega), gR_s]
  · rw [e, gR_n (by omega), gR_n (by omega), gR_s]
  · rw [e, gR_n (by omega), gR_s]
  · rw [e, gR_s]
theorem wI_CI : CI (wI x) x := by
  obtain ⟨r0, r1, r2, r4, r6, r7, r9⟩ := wI_ref x
  have g139 := wI_c x (q := x + 139) (by omega)
  have h : ¬ x + 139 = x := by omega
  have f139 : gSame (WC w0 x (x + 1)) (WCf w0 (x + 1)) (x + 139) := (((((((((gSame.sI h).tr (gSame.sI h)).tr (gSame.sR h)).tr (gSame.sR h)).tr (gSame.sR h)).tr (gSame.sR h)).tr (gSame.sR h)).tr (gSame.sR h)).tr (gSame.sR h)).tr (gSame.nA h)
  have p139 := g139.tr f139
  have W6 : WS (wI x) (x + 140) := (WW_ok (WC3 w0 (x + 1)) (x + 140)).gs ((wI_6 x (by omega) (by omega) (by omega)).tr ((gSame.nA (by omega)).tr (gSame.nA (by omega)))) ((wI_6 x (by omega) (by omega) (by omega)).tr ((gSame.nA (by omega)).tr (gSame.nA (by omega))))
  have s142 := wI_6 x (q := x + 142) (by omega) (by omega) (by omega)
  have s143 := wI_6 x (q := x + 143) (by omega) (by omega) (by omega)
  have p3 : ∀ j, 3 ≤ j → OFF (wI x) x j = x + 144 + 46 * (j - 3) := fun j hj => by
    rw [OFF_p _ _ hj]
    refine (p139.2.2.2 _ _).trans ?_
    refine (nF_R (WCp w0 (x + 1) 8) (x + 139) 13 8 603 (j - 3) (fun i => x + 1 + 143 + 46 * i)).trans ?_
    show x + 1 + 143 + 46 * (j - 3) = _
    omega
  have eo : ∀ j, j < 11 → OFF (wI x) x j = bs x j := fun j hj => by
    unfold bs
    by_cases h3 : j < 3
    · rw [if_pos h3]
      rcases (show j = 0 ∨ j = 1 ∨ j = 2 by omega) with rfl | rfl | rfl
      · exact r0
      · exact r1
      · exact rfl
    · rw [if_neg h3]
      exact p3 j (by omega)
  refine ⟨(wI_c x (q := x) (by omega)).1.trans (nA_k (WCf w0 (x + 1)) x 5 0), r2, r4, p139.1.trans (nF_k _ _ _ _ _ _), p139.2.1.trans (nF_l _ _ _ _ _ _), r6, W6, r7, s142.1.trans ((nA_k' (by omega)).trans (nA_k _ (x + 142) 10 60)), s142.2.1.trans ((nA_l' (by omega)).trans (nA_l _ (x + 142) 10 60)), r9, s143.1.trans (nA_k _ (x + 143) 10 17), s143.2.1.trans (nA_l _ (x + 143) 10 17), fun i hi => (wI_o x i hi).1, fun j hj => ⟨j, hj, eo j hj⟩, fun j k hj hk e => ?_⟩
  rw [eo j hj, eo k hk] at e
  unfold bs at e
  split at e <;> split at e <;> omega
theorem wI_m8 {k : Nat} (h1 : 1 ≤ k) (h8 : k ≤ 8) : gSame (wI x) (WM8 (WC w0 x (x + 1)) (x + 513)) (x + 512 + k) := by
  have h : ¬ x + 512 + k = x + 512 := by omega
  exact ((((((((((gSame.sI h).tr (gSame.sI h)).tr (gSame.sR h)).tr (gSame.sR h)).tr (gSame.sR h)).tr (gSame.sR h)).tr (gSame.sR h)).tr (gSame.sR h)).tr (gSame.sR h)).tr (gSame.sR h)).tr (gSame.nA h)
theorem m8_k (w : FW) (sz : Nat) : (∀ k, k < 8 → (WM8 w sz).1 (sz + k) = 11) ∧ (∀ k, k < 8 → ∀ c i, gI (WM8 w sz) c (sz + k) i = 0) ∧ (WM8 w sz).2.1 sz = 177 ∧ (WM8 w sz).2.1 (sz + 1) = 177 ∧ (WM8 w sz).2.1 (sz + 2) = 177 ∧ (WM8 w sz).2.1 (sz + 3) = 1416 ∧ (WM8 w sz).2.1 (sz + 4) = 60 ∧ (WM8 w sz).2.1 (sz + 5) = 240 ∧ (WM8 w sz).2.1 (sz + 6) = 60 ∧ (WM8 w sz).2.1 (sz + 7) = 7 := by
  refine ⟨fun k hk => ?_, fun k hk c i => ?_, ?_, ?_, ?_, ?_, ?_, ?_, ?_, ?_⟩
  · unfold WM8 nA
    dsimp only
    (repeat' split) <;> first | rfl | omega
  · show (WM8 w sz).2.2.1 c (sz + k) i = 0
    unfold WM8 nA
    dsimp only
    (repeat' split) <;> first | rfl | omega
  all_goals
    unfold WM8 nA
    dsimp only
    (repeat' split) <;> first | rfl | omega
theorem wI_MB : MB (wI x) (x + 512) := by
  obtain ⟨k8, -, l1, l2, l3, l4, l5, l6, l7, l8⟩ := m8_k (WC w0 x (x + 1)) (x + 513)
  have kk : ∀ k, 1 ≤ k → k ≤ 8 → (wI x).1 (x + 512 + k) = 11 := fun k h1 h2 => by
    rw [(wI_m8 x h1 h2).1, show x + 512 + k = x + 513 + (k - 1) by omega]
    exact k8 (k - 1) (by omega)
  have ll : ∀ k, 1 ≤ k → k ≤ 8 → (wI x).2.1 (x + 512 + k) = (WM8 (WC w0 x (x + 1)) (x + 513)).2.1 (x + 513 + (k - 1)) := fun k h1 h2 => by
    rw [(wI_m8 x h1 h2).2.1, show x + 512 + k = x + 513 + (k - 1) by omega]
  have e : ∀ c, gR (wI x) c (x + 512) 0 = gR (sR (sR (sR (sR (sR (sR (sR (sR (nA (WM8 (WC w0 x (x + 1)) (x + 513)) (x + 512) 6 0) 501 (x + 512) 0 (x + 513)) 502 (x + 512) 0 (x + 513 + 1)) 503 (x + 512) 0 (x + 513 + 2)) 504 (x + 512) 0 (x + 513 + 3)) 507 (x + 512) 0 (x + 513 + 4)) 508 (x + 512) 0 (x + 513 + 5)) 509 (x + 512) 0 (x + 513 + 6)) 510 (x + 512) 0 (x + 513 + 7)) c (x + 512) 0 := fun c => rfl
  refine ⟨nA_k (WM8 (WC w0 x (x + 1)) (x + 513)) (x + 512) 6 0, kk 1 (by omega) (by omega), kk 2 (by omega) (by omega), kk 3 (by omega) (by omega), kk 4 (by omega) (by omega), kk 5 (by omega) (by omega), kk 6 (by omega) (by omega), kk 7 (by omega) (by omega), kk 8 (by omega) (by omega), (ll 1 (by omega) (by omega)).trans l1, (ll 2 (by omega) (by omega)).trans l2, (ll 3 (by omega) (by omega)).trans l3, (ll 4 (by omega) (by omega)).trans l4, (ll 5 (by omega) (by omega)).trans l5, (ll 6 (by omega) (by omega)).trans l6, (ll 7 (by omega) (by omega)).trans l7, (ll 8 (by omega) (by omega)).trans l8, ?_, ?_, ?_, ?_, ?_, ?_, ?_, ?_⟩
  · rw [e, gR_n (by omega), gR_n (by omega), gR_n (by omega), gR_n (by omega), gR_n (by omega), gR_n (by omega), gR_n (by omega), gR_s]
  · rw [e, gR_n (by omega), gR_n (by omega), gR_n (by omega), gR_n (by omega), gR_n (by omega), gR_n (by omega), gR_s]
  · rw [e, gR_n (by omega), gR_n (by omega), gR_n (by omega), gR_n (by omega), gR_n (by omega), gR_s]
  · rw [e, gR_n (by omega), gR_n (by omega), gR_n (by omega), gR_n (by omega), gR_s]
  · rw [e, gR_n (by omega), gR_n (by omega), gR_n (by omega), gR_s]
  · rw [e, gR_n (by omega), gR_n (by omega), gR_s]
  · rw [e, gR_n (by omega), gR_s]
  · rw [e, gR_s]
theorem wI_a {k : Nat} (h1 : 1 ≤ k) (h8 : k ≤ 8) (i : Nat) : arW (wI x) (x + 512) k i = 0 := by
  show gI (wI x) 601 (x + 512 + k) i = 0
  rw [(wI_m8 x h1 h8).2.2.1, show x + 512 + k = x + 513 + (k - 1) by omega]
  exact (m8_k _ _).2.1 (k - 1) (by omega) 601 i
theorem wI_13 : gI (wI x) 413 x 0 = -1 ∧ gI (wI x) 414 x 0 = -1 ∧ gI (wI x) 513 (x + 512) 0 = -1 ∧ gI (wI x) 514 (x + 512) 0 = -1 := by
  have g := (wI_c x (q := x) (by omega)).2.2.1
  refine ⟨(g 413 0).trans ?_, (g 414 0).trans ?_, ?_, ?_⟩
  · unfold WC
    rw [gI_n (by omega), gI_s]
  · unfold WC
    rw [gI_s]
  · unfold wI WM
    rw [gI_n (by omega), gI_s]
  · unfold wI WM
    rw [gI_s]
theorem wI_JJ : JJ 0 (wI x) x := by
  obtain ⟨r0, r1, r2, r4, r6, r7, r9⟩ := wI_ref x
  obtain ⟨t1, t2, t3, t4⟩ := wI_13 x
  have o0 : OR (wI x) (OFF (wI x) x 0) A0 := by
    have e : OFF (wI x) x 0 = bs x 0 := r0
    rw [e]
    exact (wI_o x 0 (by omega)).2
  have C : CR (wI x) x A0 0 (arW (wI x) (x + 512) 4) 0 (arW (wI x) (x + 512) 3) := ⟨wI_CI x, o0, A0_w, wI_x x 405 (by omega) (by omega), by omega, fun i hi => by omega, wI_x x 403 (by omega) (by omega), Or.inl rfl, fun z => absurd z (by decide)⟩
  have e506 : flW (wI x) (x + 512) 506 = 0 := wI_M x 506 (by omega) (by omega)
  refine ⟨wI_MB x, 0, ?_, wI_M x 505 (by omega) (by omega), ⟨?_, ?_, t1.trans t3.symm, t2.trans t4.symm, ⟨0, by omega, wI_x x 408 (by omega) (by omega), wI_M x 511 (by omega) (by omega), fun i hi => by omega⟩, ⟨0, by omega, wI_x x 410 (by omega) (by omega), wI_M x 512 (by omega) (by omega), fun i hi => by omega⟩⟩, ⟨0, by omega, wI_a x (by omega) (by omega) 1⟩, fun i hi => by omega, fun z => absurd (e506.symm.trans z) (by decide)⟩
  · rw [e506]
    exact C.cg (fun k hk => wI_a x (by omega) (by omega) k)
  · exact (wI_x x 411 (by omega) (by omega)).trans (wI_M x 515 (by omega) (by omega)).symm
  · exact (wI_x x 412 (by omega) (by omega)).trans (wI_M x 516 (by omega) (by omega)).symm
end WINI
