/-! What the constructor leaves -/
theorem WS.gs {w w' : FW} {d : Nat} (h : WS w d) (g0 : gSame w' w d) (g1 : gSame w' w (d + 1)) : WS w' d := ⟨g0.1.trans h.1, g1.1.trans h.2.1, g1.2.1.trans h.2.2.1, (g0.2.2.2 _ _).trans h.2.2.2.1, fun k hk => by rw [g1.2.2.1]; exact h.2.2.2.2 k hk⟩
theorem TS.gs {w w' : FW} {τ : Nat} (h : TS w τ) (g : ∀ q, τ ≤ q → q < τ + 5 → gSame w' w q) : TS w' τ := by
  obtain ⟨h1, h2, h3, h4, h5, h6, h7⟩ := h
  have g0 := g τ (by omega) (by omega)
  exact ⟨g0.1.trans h1, (g (τ + 3) (by omega) (by omega)).1.trans h2, (g (τ + 4) (by omega) (by omega)).1.trans h3, (g0.2.2.2 _ _).trans h4, (g0.2.2.2 _ _).trans h5, (g0.2.2.2 _ _).trans h6, h7.gs (g _ (by omega) (by omega)) (g _ (by omega) (by omega))⟩
theorem OS.gs {w w' : FW} {o : Nat} (h : OS w o) (g : ∀ q, o ≤ q → q < o + 46 → gSame w' w q) : OS w' o := by
  obtain ⟨a1, a2, a3, a4, a5, a6, a7, a8, a9, a10, a11, a12, a13, a14, a15⟩ := h
  have g0 := g o (by omega) (by omega)
  have g1 := g (o + 1) (by omega) (by omega)
  have g4 := g (o + 4) (by omega) (by omega)
  have g5 := g (o + 5) (by omega) (by omega)
  refine ⟨g0.1.trans a1, g1.1.trans a2, g1.2.1.trans a3, g4.1.trans a4, g4.2.1.trans a5, g5.1.trans a6, g5.2.1.trans a7, (g0.2.2.2 _ _).trans a8, (g0.2.2.2 _ _).trans a9, (g0.2.2.2 _ _).trans a10, (g0.2.2.2 _ _).trans a11, a12.gs (g _ (by omega) (by omega)) (g _ (by omega) (by omega)), fun j hj => (a13 j hj).gs (fun q q1 q2 => g q (by omega) (by omega)), fun j hj => by rw [g1.2.2.2]; exact a14 j hj, fun j k hj hk => by rw [g1.2.2.2, g1.2.2.2]; exact a15 j k hj hk⟩
theorem OR.gs {w w' : FW} {o : Nat} (h : OR w o A0) (g : ∀ q, o ≤ q → q < o + 46 → gSame w' w q) : OR w' o A0 := by
  obtain ⟨a1, a2, a3, a4, a5, a6, am, ap, ad, -⟩ := h
  have g0 := g o (by omega) (by omega)
  have g2 := g (o + 2) (by omega) (by omega)
  have g4 := g (o + 4) (by omega) (by omega)
  have g5 := g (o + 5) (by omega) (by omega)
  exact ⟨(g0.2.2.1 _ _).trans a1, (g0.2.2.1 _ _).trans a2, (g0.2.2.1 _ _).trans a3, (g0.2.2.1 _ _).trans a4, (g0.2.2.1 _ _).trans a5, (g0.2.2.1 _ _).trans a6, fun p hp => (g4.2.2.1 _ _).trans (am p hp), fun p hp => (g5.2.2.1 _ _).trans (ap p hp), ⟨(g2.2.2.1 _ _).trans ad.1, fun k hk => absurd hk (by show ¬ k < 0; omega)⟩, fun t ht => absurd ht (by show ¬ t < 0; omega)⟩
theorem WW_ok (w : FW) (d : Nat) : WS (WW w d (d + 1)) d := by
  have h : ¬ d + 1 = d := by omega
  refine ⟨nA_k (nA w (d + 1) 10 6) d 4 0, (nA_k' (k := 4) (n := 0) h).trans (nA_k w (d + 1) 10 6), (nA_l' (k := 4) (n := 0) h).trans (nA_l w (d + 1) 10 6), gR_s _ _ _ _ _, fun k _ => ?_⟩
  have e : gI (WW w d (d + 1)) 600 (d + 1) k = 0 := (nA_I' (w := nA w (d + 1) 10 6) (a := d) (k := 4) (n := 0) h).trans (nA_I w (d + 1) 10 6 600 k)
  rw [e]
  exact fch_n 0 (by omega)
theorem WT_3 {w : FW} {τ sz q : Nat} (h : ¬ q = τ) : gSame (WT w τ sz) (WT3 w sz) q := ((((gSame.sI h).tr (gSame.sR h)).tr (gSame.sR h)).tr (gSame.sR h)).tr (gSame.nA h)
theorem WT_ok (w : FW) (τ : Nat) : TS (WT w τ (τ + 1)) τ := by
  have W : WS (WT3 w (τ + 1)) (τ + 1) := (WW_ok w (τ + 1)).gs ((WH_off (by omega)).tr (WH_off (by omega))) ((WH_off (by omega)).tr (WH_off (by omega)))
  refine ⟨WT_k _ _ _, ?_, ?_, ?_, ?_, ?_, W.gs (WT_3 (by omega)) (WT_3 (by omega))⟩
  · refine (WT_3 (w := w) (τ := τ) (sz := τ + 1) (q := τ + 3) (by omega)).1.trans ?_
    refine (WH_off (w := WH (WW w (τ + 1) (τ + 1 + 1)) (τ + 1 + 2) (τ + 1 + 3)) (b := τ + 1 + 3) (sz := τ + 1 + 4) (q := τ + 3) (by omega)).1.trans ?_
    exact nA_k (WW w (τ + 1) (τ + 1 + 1)) (τ + 1 + 2) 1 0
  · refine (WT_3 (w := w) (τ := τ) (sz := τ + 1) (q := τ + 4) (by omega)).1.trans ?_
    exact nA_k (WH (WW w (τ + 1) (τ + 1 + 1)) (τ + 1 + 2) (τ + 1 + 3)) (τ + 1 + 3) 1 0
  · show gR (sR (sR (sR (nA (WT3 w (τ + 1)) τ 3 0) 200 τ 0 (τ + 1)) 206 τ 0 (τ + 1 + 2)) 207 τ 0 (τ + 1 + 3)) 200 τ 0 = τ + 1
    rw [gR_n (by omega), gR_n (by omega), gR_s]
  · show gR (sR (sR (sR (nA (WT3 w (τ + 1)) τ 3 0) 200 τ 0 (τ + 1)) 206 τ 0 (τ + 1 + 2)) 207 τ 0 (τ + 1 + 3)) 206 τ 0 = τ + 3
    rw [gR_n (by omega), gR_s]
  · show gR (sR (sR (sR (nA (WT3 w (τ + 1)) τ 3 0) 200 τ 0 (τ + 1)) 206 τ 0 (τ + 1 + 2)) 207 τ 0 (τ + 1 + 3)) 207 τ 0 = τ + 4
    rw [gR_s]
theorem WOt_t (w : FW) (sz : Nat) : ∀ j i, i < j → TS (WOt w sz j) (sz + 5 + 5 * i) := by
  intro j
  induction j with
  | zero => exact fun i hi => by omega
  | succ j ih =>
    intro i hi
    by_cases z : i = j
    · subst z
      have := WT_ok (WOt w sz i) (sz + 5 + 5 * i)
      rw [show sz + 5 + 5 * i + 1 = sz + 6 + 5 * i by omega] at this
      exact this
    · exact (ih i (by omega)).gs (fun q q1 q2 => WT_off (by omega) (by omega))
theorem WOt_3 {w : FW} {sz q : Nat} (h : q < sz + 5) : ∀ j, gSame (WOt w sz j) (WO3 w sz) q
  | 0 => gSame.rf _ _
  | j + 1 => (WT_off (by omega) (by omega)).tr (WOt_3 h j)
theorem WO_t {w : FW} {b sz q : Nat} (h : ¬ q = b) (h1 : ¬ q = sz) (h4 : ¬ q = sz + 4) : gSame (WO w b sz) (WOt w sz 8) q := ((((((gSame.sR h).tr (gSame.sR h)).tr (gSame.sR h)).tr (gSame.sR h)).tr (gSame.nA h)).tr (show gSame _ _ q from gOff.nF _ _ _ _ _ _ q h1)).tr (WOo_off h4 5)
theorem WO_o {w : FW} {b sz q : Nat} (h : ¬ q = b) (h1 : ¬ q = sz) : gSame (WO w b sz) (WOo w sz 5) q := (((((gSame.sR h).tr (gSame.sR h)).tr (gSame.sR h)).tr (gSame.sR h)).tr (gSame.nA h)).tr (show gSame _ _ q from gOff.nF _ _ _ _ _ _ q h1)
theorem WO_f {w : FW} {b sz q : Nat} (h : ¬ q = b) : gSame (WO w b sz) (WOf w sz) q := ((((gSame.sR h).tr (gSame.sR h)).tr (gSame.sR h)).tr (gSame.sR h)).tr (gSame.nA h)
theorem WOo_g (w : FW) (sz : Nat) : ∀ j p, p < j → gI (WOo w sz j) 602 (sz + 4) p = 1 := by
  intro j
  induction j with
  | zero => exact fun p hp => by omega
  | succ j ih =>
    intro p hp
    by_cases z : p = j
    · subst z
      exact gI_s _ _ _ _ _
    · exact (gI_n (by omega)).trans (ih p (by omega))
theorem WOo_k (w : FW) (sz : Nat) : ∀ j, (WOo w sz j).1 = (WOt w sz 8).1 ∧ (WOo w sz j).2.1 = (WOt w sz 8).2.1
  | 0 => ⟨rfl, rfl⟩
  | j + 1 => WOo_k w sz j
theorem WO_ok (w : FW) (o : Nat) : OS (WO w o (o + 1)) o ∧ OR (WO w o (o + 1)) o A0 := by
  have c3 := WO_t (w := w) (b := o) (sz := o + 1) (q := o + 2) (by omega) (by omega) (by omega)
  have c4 := WO_t (w := w) (b := o) (sz := o + 1) (q := o + 3) (by omega) (by omega) (by omega)
  have t2 := c3.tr (WOt_3 (w := w) (sz := o + 1) (q := o + 2) (by omega) 8)
  have t3 := c4.tr (WOt_3 (w := w) (sz := o + 1) (q := o + 3) (by omega) 8)
  have t4 := (WO_t (w := w) (b := o) (sz := o + 1) (q := o + 4) (by omega) (by omega) (by omega)).tr (WOt_3 (w := w) (sz := o + 1) (q := o + 4) (by omega) 8)
  have g5 := WO_o (w := w) (b := o) (sz := o + 1) (q := o + 5) (by omega) (by omega)
  have k5 := WOo_k w (o + 1) 5
  have t5 := WOt_3 (w := w) (sz := o + 1) (q := o + 5) (by omega) 8
  have g1 := WO_f (w := w) (b := o) (sz := o + 1) (q := o + 1) (by omega)
  have W3 : WS (WO3 w (o + 1)) (o + 2) := (WW_ok w (o + 2)).gs ((gSame.nA (by omega)).tr (gSame.nA (by omega))) ((gSame.nA (by omega)).tr (gSame.nA (by omega)))
  have e4 : (WO3 w (o + 1)).1 (o + 4) = 11 ∧ (WO3 w (o + 1)).2.1 (o + 4) = 3 ∧ ∀ c i, gI (WO3 w (o + 1)) c (o + 4) i = 0 := ⟨(nA_k' (by omega)).trans (nA_k _ (o + 4) 11 3), (nA_l' (by omega)).trans (nA_l _ (o + 4) 11 3), fun c i => (nA_I' (by omega)).trans (nA_I _ (o + 4) 11 3 c i)⟩
  have e5 : (WO3 w (o + 1)).1 (o + 5) = 12 ∧ (WO3 w (o + 1)).2.1 (o + 5) = 5 := ⟨nA_k _ (o + 5) 12 5, nA_l _ (o + 5) 12 5⟩
  have r1 : ∀ i, gR (WO w o (o + 1)) 604 (o + 1) i = o + 6 + 5 * i := fun i => (g1.2.2.2 _ _).trans ((nF_R _ (o + 1) 14 8 604 i _).trans (by show o + 1 + 5 + 5 * i = o + 6 + 5 * i; omega))
  have n0 : ∀ c i, gI (WO w o (o + 1)) c o i = 0 := fun c i => nA_I (WOf w (o + 1)) o 2 0 c i
  refine ⟨⟨WO_k _ _ _, g1.1.trans (nF_k _ _ _ _ _ _), g1.2.1.trans (nF_l _ _ _ _ _ _), t4.1.trans e4.1, t4.2.1.trans e4.2.1, ?_, ?_, ?_, ?_, ?_, ?_, W3.gs t2 t3, fun j hj => ?_, fun j hj => ⟨j, hj, r1 j⟩, fun j k hj hk h => ?_⟩, ⟨n0 _ _, n0 _ _, n0 _ _, n0 _ _, n0 _ _, n0 _ _, fun p hp => (t4.2.2.1 _ _).trans (e4.2.2 _ _), fun p hp => ?_, ⟨?_, fun k hk => absurd hk (by show ¬ k < 0; omega)⟩, fun t ht => absurd ht (by show ¬ t < 0; omega)⟩⟩
  · rw [g5.1, k5.1, t5.1]
    exact e5.1
  · rw [g5.2.1, k5.2, t5.2.1]
    exact e5.2
  · show gR (sR (sR (sR (sR (nA (WOf w (o + 1)) o 2 0) 100 o 0 (o + 1)) 102 o 0 (o + 1 + 1)) 103 o 0 (o + 1 + 3)) 104 o 0 (o + 1 + 4)) 100 o 0 = o + 1
    rw [gR_n (by omega), gR_n (by omega), gR_n (by omega), gR_s]
  · show gR (sR (sR (sR (sR (nA (WOf w (o + 1)) o 2 0) 100 o 0 (o + 1)) 102 o 0 (o + 1 + 1)) 103 o 0 (o + 1 + 3)) 104 o 0 (o + 1 + 4)) 102 o 0 = o + 2
    rw [gR_n (by omega), gR_n (by omega), gR_s]
  · show gR (sR (sR (sR (sR (nA (WOf w (o + 1)) o 2 0) 100 o 0 (o + 1)) 102 o 0 (o + 1 + 1)) 103 o 0 (o + 1 + 3)) 104 o 0 (o + 1 + 4)) 103 o 0 = o + 4
    rw [gR_n (by omega), gR_s]
  · show gR (sR (sR (sR (sR (nA (WOf w (o + 1)) o 2 0) 100 o 0 (o + 1)) 102 o 0 (o + 1 + 1)) 103 o 0 (o + 1 + 3)) 104 o 0 (o + 1 + 4)) 104 o 0 = o + 5
    rw [gR_s]
  · have := WOt_t w (o + 1) 8 j hj
    rw [show o + 1 + 5 + 5 * j = o + 6 + 5 * j by omega] at this
    exact this.gs (fun q q1 q2 => WO_t (by omega) (by omega) (by omega))
  · rw [r1, r1] at h
    omega
  · rw [g5.2.2.1, if_pos (A0_s p hp)]
    exact WOo_g w (o + 1) 5 p hp
  · have h2 : gI (WO3 w (o + 1)) 301 (o + 2) 0 = 0 := by
      have ga : gSame (WO3 w (o + 1)) (WW w (o + 2) (o + 2 + 1)) (o + 2) := (gSame.nA (by omega)).tr (gSame.nA (by omega))
      rw [ga.2.2.1]
      exact nA_I (nA w (o + 2 + 1) 10 6) (o + 2) 4 0 301 0
    exact (t2.2.2.1 _ _).trans h2
def w0 : FW := (fun _ => 0, fun _ => 0, fun _ _ _ => 0, fun _ _ _ => 0)
theorem FH_0 (D : va_G) (cy : Nat → ClassId) (H : Heap) : FH D cy w0 H := ⟨fun a h => absurd rfl h, fun a => ⟨fun ci h1 _ => (by have h2 : (0 : Nat) = ci + 1 := h1; omega), fun j h1 _ => (by have h2 : (0 : Nat) = 10 + j := h1; omega), fun j h1 _ => (by have h2 : (0 : Nat) = 13 + j := h1; omega)⟩⟩
theorem WCp_up {w : FW} {sz q : Nat} (j : Nat) (h : q < sz + 143 + 46 * j) : ∀ k, gSame (WCp w sz (j + k)) (WCp w sz j) q
  | 0 => gSame.rf _ _
  | k + 1 => (show gSame (WCp w sz (j + k + 1)) (WCp w sz (j + k)) q from WO_off (show ¬ q = sz + 143 + 46 * (j + k) by omega) (by omega)).tr (WCp_up j h k)
theorem WC_p {w : FW} {b sz q : Nat} (h : ¬ q = b) (h1 : ¬ q = sz + 138) : gSame (WC w b sz) (WCp w sz 8) q := ((((((((((gSame.sI h).tr (gSame.sI h)).tr (gSame.sR h)).tr (gSame.sR h)).tr (gSame.sR h)).tr (gSame.sR h)).tr (gSame.sR h)).tr (gSame.sR h)).tr (gSame.sR h)).tr (gSame.nA h)).tr (show gSame _ _ q from gOff.nF _ _ _ _ _ _ q h1)
/-- the world behind the constructor -/
def wI (x : Nat) : FW := WC w0 x (x + 1)
section WINI
variable (x : Nat)
theorem wI_c {q : Nat} (_h : q < x + 512) : gSame (wI x) (WC w0 x (x + 1)) q := gSame.rf _ _
theorem wI_p {q : Nat} (h : x < q) (h1 : ¬ q = x + 139) (h2 : q < x + 512) : gSame (wI x) (WCp w0 (x + 1) 8) q := (wI_c x h2).tr (WC_p (by omega) (by omega))
theorem wI_6 {q : Nat} (h : x < q) (h2 : q < x + 144) (h1 : ¬ q = x + 139) : gSame (wI x) (WC6 w0 (x + 1)) q := (wI_p x h h1 (by omega)).tr (WCp_up 0 (by omega) 8)
theorem wI_o (i : Nat) (hi : i < 11) : OS (wI x) (bs x i) ∧ OR (wI x) (bs x i) A0 := by
  have fin : ∀ (w' : FW) (o : Nat), o = bs x i → (∀ q, o ≤ q → q < o + 46 → gSame (wI x) (WO w' o (o + 1)) q) → OS (wI x) (bs x i) ∧ OR (wI x) (bs x i) A0 := by
    intro w' o e g
    rw [← e]
    exact ⟨(WO_ok w' o).1.gs g, (WO_ok w' o).2.gs g⟩
  by_cases h : i < 3
  · have eb : bs x i = x + 1 + 46 * i := if_pos h
    have h6 : ∀ q, x < q → q < x + 139 → gSame (wI x) (WC3 w0 (x + 1)) q := fun q q1 q2 => (wI_6 x q1 (by omega) (by omega)).tr (WC6_off (by omega))
    rcases (show i = 0 ∨ i = 1 ∨ i = 2 by omega) with rfl | rfl | rfl
    · exact fin w0 (x + 1) eb.symm (fun q q1 q2 => (h6 q (by omega) (by omega)).tr ((WO_off (by omega) (by omega)).tr (WO_off (by omega) (by omega))))
    · exact fin (WO w0 (x + 1) (x + 1 + 1)) (x + 1 + 46) eb.symm (fun q q1 q2 => (h6 q (by omega) (by omega)).tr (WO_off (by omega) (by omega)))
    · exact fin (WO (WO w0 (x + 1) (x + 1 + 1)) (x + 1 + 46) (x + 1 + 47)) (x + 1 + 92) (by omega) (fun q q1 q2 => h6 q (by omega) (by omega))
  · have eb : bs x i = x + 144 + 46 * (i - 3) := if_neg h
    refine fin (WCp w0 (x + 1) (i - 3)) (x + 1 + 143 + 46 * (i - 3)) (by omega) (fun q q1 q2 => ?_)
    have h1 := wI_p x (q := q) (by omega) (by omega) (by omega)
    have h2 := WCp_up (w := w0) (sz := x + 1) (q := q) (i - 3 + 1) (by omega) (8 - (i - 3 + 1))
    rw [show i - 3 + 1 + (8 - (i - 3 + 1)) = 8 by omega] at h2
    have h3 := h1.tr h2
    have e9 : WCp w0 (x + 1) (i - 3 + 1) = WO (WCp w0 (x + 1) (i - 3)) (x + 1 + 143 + 46 * (i - 3)) (x + 1 + 144 + 46 * (i - 3)) := rfl
    rw [e9, show x + 1 + 144 + 46 * (i - 3) = x + 1 + 143 + 46 * (i - 3) + 1 by omega] at h3
    exact h3
theorem wI_x (c : Nat) (h : ¬ c = 413) (h1 : ¬ c = 414) : gI (wI x) c x 0 = 0 := by
  rw [(wI_c x (q := x) (by omega)).2.2.1]
  show gI (sI (sI (sR (sR (sR (sR (sR (sR (sR (nA (WCf w0 (x + 1)) x 5 0) 400 x 0 (x + 1)) 401 x 0 (x + 1 + 46)) 402 x 0 (x + 1 + 92)) 404 x 0 (x + 1 + 138)) 406 x 0 (x + 1 + 139)) 407 x 0 (x + 1 + 141)) 409 x 0 (x + 1 + 142)) 413 x 0 (-1)) 414 x 0 (-1)) c x 0 = 0
  rw [gI_n (by omega), gI_n (by omega)]
  simp only [gI_sR]
  exact nA_I _ _ _ _ _ _
theorem wI_ref : gR (wI x) 400 x 0 = x + 1 ∧ gR (wI x) 401 x 0 = x + 47 ∧ gR (wI x) 402 x 0 = x + 93 ∧ gR (wI x) 404 x 0 = x + 139 ∧ gR (wI x) 406 x 0 = x + 140 ∧ gR (wI x) 407 x 0 = x + 142 ∧ gR (wI x) 409 x 0 = x + 143 := by
  have e : ∀ c, gR (wI x) c x 0 = gR (sR (sR (sR (sR (sR (sR (sR (nA (WCf w0 (x + 1)) x 5 0) 400 x 0 (x + 1)) 401 x 0 (x + 1 + 46)) 402 x 0 (x + 1 + 92)) 404 x 0 (x + 1 + 138)) 406 x 0 (x + 1 + 139)) 407 x 0 (x + 1 + 141)) 409 x 0 (x + 1 + 142)) c x 0 := fun c => by
    rw [(wI_c x (q := x) (by omega)).2.2.2]
    unfold WC
    rw [gR_sI, gR_sI]
  refine ⟨?_, ?_, ?_, ?_, ?_, ?_, ?_⟩
  · rw [e, gR_n (by omega), gR_n (by omega), gR_n (by omega), gR_n (by omega), gR_n (by omega), gR_n (by omega), gR_s]
  · rw [e, gR_n (by omega), gR_n (by omega), gR_n (by omega), gR_n (by omega), gR_n (by omega), gR_s]
  · rw [e, gR_n (by omega), gR_n (by omega), gR_n (by omega), gR_n (by omega), gR_s]
  · rw [e, gR_n (by omega), gR_n (by omega), gR_n (by omega), gR_s]
  · rw [e, gR_n (by omega), gR_n (by omega), gR_s]
  · rw [e, gR_n (by omega), gR_s]
  · rw [e, gR_s]
theorem wI_CI : CI (wI x) x := by
  obtain ⟨r0, r1, r2, r4, r6, r7, r9⟩ := wI_ref x
  have g139 := wI_c x (q := x + 139) (by omega)
  have h : ¬ x + 139 = x := by omega
  have f139 : gSame (WC w0 x (x + 1)) (WCf w0 (x + 1)) (x + 139) := (((((((((gSame.sI h).tr (gSame.sI h)).tr (gSame.sR h)).tr (gSame.sR h)).tr (gSame.sR h)).tr (gSame.sR h)).tr (gSame.sR h)).tr (gSame.sR h)).tr (gSame.sR h)).tr (gSame.nA h)
  have p139 := g139.tr f139
  have W6 : WS (wI x) (x + 140) := (WW_ok (WC3 w0 (x + 1)) (x + 140)).gs ((wI_6 x (by omega) (by omega) (by omega)).tr ((gSame.nA (by omega)).tr (gSame.nA (by omega)))) ((wI_6 x (by omega) (by omega) (by omega)).tr ((gSame.nA (by omega)).tr (gSame.nA (by omega))))
  have s142 := wI_6 x (q := x + 142) (by omega) (by omega) (by omega)
  have s143 := wI_6 x (q := x + 143) (by omega) (by omega) (by omega)
  have p3 : ∀ j, 3 ≤ j → OFF (wI x) x j = x + 144 + 46 * (j - 3) := fun j hj => by
    rw [OFF_p _ _ hj]
    refine (p139.2.2.2 _ _).trans ?_
    unfold WCf
    rw [show x + 139 = x + 1 + 138 by omega, nF_R]
  have eo : ∀ j, j < 11 → OFF (wI x) x j = bs x j := fun j hj => by
    unfold bs
    by_cases h3 : j < 3
    · rw [if_pos h3]
      rcases (show j = 0 ∨ j = 1 ∨ j = 2 by omega) with rfl | rfl | rfl
      · exact r0
      · exact r1
      · exact rfl
    · rw [if_neg h3]
      exact p3 j (by omega)
  have kx : (wI x).1 x = 5 := by
    rw [(wI_c x (q := x) (by omega)).1]
    unfold WC
    simp only [sI_k1, sR_k1]
    exact nA_k _ _ _ _
  have k139 : (wI x).1 (x + 139) = 13 ∧ (wI x).2.1 (x + 139) = 8 := by
    rw [p139.1, p139.2.1]
    unfold WCf
    rw [show x + 139 = x + 1 + 138 by omega]
    exact ⟨nF_k _ _ _ _ _ _, nF_l _ _ _ _ _ _⟩
  have k142 : (wI x).1 (x + 142) = 10 ∧ (wI x).2.1 (x + 142) = 60 := by
    rw [s142.1, s142.2.1]
    unfold WC6
    rw [nA_k' (by omega), nA_l' (by omega), show x + 142 = x + 1 + 141 by omega]
    exact ⟨nA_k _ _ _ _, nA_l _ _ _ _⟩
  have k143 : (wI x).1 (x + 143) = 10 ∧ (wI x).2.1 (x + 143) = 17 := by
    rw [s143.1, s143.2.1]
    unfold WC6
    rw [show x + 143 = x + 1 + 142 by omega]
    exact ⟨nA_k _ _ _ _, nA_l _ _ _ _⟩
  refine ⟨kx, r2, r4, k139.1, k139.2, r6, W6, r7, k142.1, k142.2, r9, k143.1, k143.2, fun i hi => (wI_o x i hi).1, fun j hj => ⟨j, hj, eo j hj⟩, fun j k hj hk e => ?_⟩
  rw [eo j hj, eo k hk] at e
  unfold bs at e
  split at e <;> split at e <;> omega
theorem wI_CR : CR (wI x) x A0 0 A0 0 A0 := by
  obtain ⟨r0, r1, r2, r4, r6, r7, r9⟩ := wI_ref x
  have o0 : OR (wI x) (OFF (wI x) x 0) A0 := by
    have e : OFF (wI x) x 0 = bs x 0 := r0
    rw [e]
    exact (wI_o x 0 (by omega)).2
  exact ⟨wI_CI x, o0, A0_w, wI_x x 405 (by omega) (by omega), by omega, fun i hi => by omega, wI_x x 403 (by omega) (by omega), Or.inl rfl, fun z => absurd z (by decide)⟩
theorem wI_8 : gI (wI x) 408 x 0 = 0 := wI_x x 408 (by omega) (by omega)
theorem IV_0 : IV 0 A0 := ⟨fun t ht => absurd ht (by show ¬ t < 0; omega), ⟨0, by omega, by show (0 : Nat) ≤ 0; omega, rfl⟩, ⟨0, 0, by omega, rfl, rfl, by show 0 + 0 ≤ 0; omega⟩, 0, by omega, rfl, by show (0 : Nat) ≤ 0; omega⟩
theorem DB_0 : DB 0 A0 := ⟨0, by omega, rfl⟩
theorem SS_0 {fs : Nat → Int64} (h : fs 0 = sumA A0) : SS fs 0 0 A0 A0 := ⟨by omega, rfl, h.symm, fun i hi => by omega⟩
end WINI
