/-! The class: pictures of its words, halves, tickets and offices in a world -/
/-- only cells with P were changed -/
def Fr (w w' : FW) (P : Nat → Prop) : Prop := w'.1 = w.1 ∧ w'.2.1 = w.2.1 ∧ (∀ c a i, ¬ P a → gI w' c a i = gI w c a i) ∧ ∀ c a i, ¬ P a → gR w' c a i = gR w c a i
theorem Fr.rf (w : FW) (P : Nat → Prop) : Fr w w P := ⟨rfl, rfl, fun _ _ _ _ => rfl, fun _ _ _ _ => rfl⟩
theorem Fr.tr {w w' w'' : FW} {P : Nat → Prop} (h : Fr w w' P) (h' : Fr w' w'' P) : Fr w w'' P :=
  ⟨h'.1.trans h.1, h'.2.1.trans h.2.1, fun c a i n => (h'.2.2.1 c a i n).trans (h.2.2.1 c a i n), fun c a i n => (h'.2.2.2 c a i n).trans (h.2.2.2 c a i n)⟩
theorem Fr.mono {w w' : FW} {P Q : Nat → Prop} (h : Fr w w' P) (hPQ : ∀ a, P a → Q a) : Fr w w' Q := ⟨h.1, h.2.1, fun c a i n => h.2.2.1 c a i (fun z => n (hPQ a z)), fun c a i n => h.2.2.2 c a i (fun z => n (hPQ a z))⟩
theorem Fr.sI (w : FW) (c a i : Nat) (v : Int32) {P : Nat → Prop} (h : P a) : Fr w (sI w c a i v) P :=
  ⟨rfl, rfl, fun c' a' i' n => gI_n (fun z => n (z.2.1 ▸ h)), fun _ _ _ _ => rfl⟩
theorem Fr.sR (w : FW) (c a i : Nat) (v : Nat) {P : Nat → Prop} (h : P a) : Fr w (sR w c a i v) P :=
  ⟨rfl, rfl, fun _ _ _ _ => rfl, fun c' a' i' n => gR_n (fun z => n (z.2.1 ▸ h))⟩
theorem gI_sI (w : FW) (c a i : Nat) (v : Int32) (c' a' i' : Nat) : gI (sI w c a i v) c' a' i' = if c' = c ∧ a' = a ∧ i' = i then v else gI w c' a' i' := rfl
theorem gR_sR (w : FW) (c a i : Nat) (v : Nat) (c' a' i' : Nat) : gR (sR w c a i v) c' a' i' = if c' = c ∧ a' = a ∧ i' = i then v else gR w c' a' i' := rfl
theorem gR_sI (w : FW) (c a i : Nat) (v : Int32) (c' a' i' : Nat) : gR (sI w c a i v) c' a' i' = gR w c' a' i' := rfl
theorem gI_sR (w : FW) (c a i : Nat) (v : Nat) (c' a' i' : Nat) : gI (sR w c a i v) c' a' i' = gI w c' a' i' := rfl
theorem sI_k1 (w : FW) (c a i : Nat) (v : Int32) : (sI w c a i v).1 = w.1 := rfl
theorem sI_l1 (w : FW) (c a i : Nat) (v : Int32) : (sI w c a i v).2.1 = w.2.1 := rfl
theorem sR_k1 (w : FW) (c a i : Nat) (v : Nat) : (sR w c a i v).1 = w.1 := rfl
theorem sR_l1 (w : FW) (c a i : Nat) (v : Nat) : (sR w c a i v).2.1 = w.2.1 := rfl
/-- a block of addresses -/
def bl (lo n : Nat) : Nat → Prop := fun q => lo ≤ q ∧ q < lo + n
/-- a word's cells -/
def WS (w : FW) (d : Nat) : Prop := w.1 d = 4 ∧ w.1 (d + 1) = 10 ∧ w.2.1 (d + 1) = 6 ∧ gR w 300 d 0 = d + 1 ∧ ∀ k, k < 6 → fch (gI w 600 (d + 1) k) = gI w 600 (d + 1) k
/-- a word of n letters f -/
def WR (w : FW) (d n : Nat) (f : Nat → Int32) : Prop := gI w 301 d 0 = nI n ∧ ∀ k, k < n → gI w 600 (d + 1) k = f k
theorem WS.fr {w w' : FW} {P : Nat → Prop} {d : Nat} (h : WS w d) (hf : Fr w w' P) (h0 : ¬ P d) (h1 : ¬ P (d + 1)) : WS w' d :=
  ⟨by rw [hf.1]; exact h.1, by rw [hf.1]; exact h.2.1, by rw [hf.2.1]; exact h.2.2.1, by rw [hf.2.2.2 _ _ _ h0]; exact h.2.2.2.1, fun k hk => by rw [hf.2.2.1 _ _ _ h1]; exact h.2.2.2.2 k hk⟩
theorem WR.fr {w w' : FW} {P : Nat → Prop} {d n : Nat} {f : Nat → Int32} (h : WR w d n f) (hf : Fr w w' P) (h0 : ¬ P d) (h1 : ¬ P (d + 1)) : WR w' d n f :=
  ⟨by rw [hf.2.2.1 _ _ _ h0]; exact h.1, fun k hk => by rw [hf.2.2.1 _ _ _ h1]; exact h.2 k hk⟩
theorem WR.to {w : FW} {d n : Nat} {f f' : Nat → Int32} (h : WR w d n f) (hf : ∀ k, k < n → f k = f' k) : WR w d n f' := ⟨h.1, fun k hk => (h.2 k hk).trans (hf k hk)⟩
/-- a half at η holds half h of ticket t -/
def HR (w : FW) (η : Nat) (A : Nat → Int32) (t h : Nat) : Prop := gI w 0 η 0 = pun A t h ∧ gI w 1 η 0 = aH A t h 0 ∧ gI w 2 η 0 = aH A t h 1 ∧ gI w 3 η 0 = aH A t h 2 ∧ gI w 4 η 0 = aH A t h 3
/-- a ticket's cells -/
def TS (w : FW) (τ : Nat) : Prop := w.1 τ = 3 ∧ w.1 (τ + 3) = 1 ∧ w.1 (τ + 4) = 1 ∧ gR w 200 τ 0 = τ + 1 ∧ gR w 206 τ 0 = τ + 3 ∧ gR w 207 τ 0 = τ + 4 ∧ WS w (τ + 1)
/-- the ticket at τ is ticket t of A -/
def TR (w : FW) (τ : Nat) (A : Nat → Int32) (t : Nat) : Prop := WR w (τ + 1) (aLen A t) (aL A t) ∧ gI w 201 τ 0 = aT A t 7 ∧ gI w 202 τ 0 = aT A t 8 ∧ gI w 203 τ 0 = aT A t 9 ∧ gI w 204 τ 0 = aT A t 10 ∧ gI w 205 τ 0 = aT A t 11 ∧ HR w (τ + 3) A t 0 ∧ HR w (τ + 4) A t 1
theorem HR.fr {w w' : FW} {P : Nat → Prop} {η t h : Nat} {A : Nat → Int32} (hr : HR w η A t h) (hf : Fr w w' P) (h0 : ¬ P η) : HR w' η A t h := by
  unfold HR
  rw [hf.2.2.1 _ _ _ h0, hf.2.2.1 _ _ _ h0, hf.2.2.1 _ _ _ h0, hf.2.2.1 _ _ _ h0, hf.2.2.1 _ _ _ h0]
  exact hr
theorem TS.fr {w w' : FW} {P : Nat → Prop} {τ : Nat} (h : TS w τ) (hf : Fr w w' P) (hP : ∀ q, τ ≤ q → q < τ + 5 → ¬ P q) : TS w' τ := by
  have n0 := hP τ (by omega) (by omega)
  refine ⟨?_, ?_, ?_, ?_, ?_, ?_, h.2.2.2.2.2.2.fr hf (hP _ (by omega) (by omega)) (hP _ (by omega) (by omega))⟩
  · rw [hf.1]; exact h.1
  · rw [hf.1]; exact h.2.1
  · rw [hf.1]; exact h.2.2.1
  · rw [hf.2.2.2 _ _ _ n0]; exact h.2.2.2.1
  · rw [hf.2.2.2 _ _ _ n0]; exact h.2.2.2.2.1
  · rw [hf.2.2.2 _ _ _ n0]; exact h.2.2.2.2.2.1
theorem TR.fr {w w' : FW} {P : Nat → Prop} {τ t : Nat} {A : Nat → Int32} (h : TR w τ A t) (hf : Fr w w' P) (hP : ∀ q, τ ≤ q → q < τ + 5 → ¬ P q) : TR w' τ A t := by
  have n0 := hP τ (by omega) (by omega)
  refine ⟨h.1.fr hf (hP _ (by omega) (by omega)) (hP _ (by omega) (by omega)), ?_, ?_, ?_, ?_, ?_, h.2.2.2.2.2.2.1.fr hf (hP _ (by omega) (by omega)), h.2.2.2.2.2.2.2.fr hf (hP _ (by omega) (by omega))⟩
  · rw [hf.2.2.1 _ _ _ n0]; exact h.2.1
  · rw [hf.2.2.1 _ _ _ n0]; exact h.2.2.1
  · rw [hf.2.2.1 _ _ _ n0]; exact h.2.2.2.1
  · rw [hf.2.2.1 _ _ _ n0]; exact h.2.2.2.2.1
  · rw [hf.2.2.1 _ _ _ n0]; exact h.2.2.2.2.2.1
/-- ticket t' of A' is what ticket t of A is -/
def sameT (A A' : Nat → Int32) (t t' : Nat) : Prop := ∀ e, e < 20 → aT A' t' e = aT A t e
theorem sameT.H {A A' : Nat → Int32} {t t' : Nat} (h : sameT A A' t t') {k e : Nat} (hk : k < 2) (he : e < 4) : aH A' t' k e = aH A t k e := h (12 + 4 * k + e) (by omega)
theorem sameT.L {A A' : Nat → Int32} {t t' : Nat} (h : sameT A A' t t') {k : Nat} (hk : k < 6) : aL A' t' k = aL A t k := h (1 + k) (by omega)
theorem sameT.n {A A' : Nat → Int32} {t t' : Nat} (h : sameT A A' t t') : aLen A' t' = aLen A t := by
  unfold aLen
  rw [h 0 (by omega)]
theorem sameT.sy {A A' : Nat → Int32} {t t' : Nat} (h : sameT A A' t t') : sameT A' A t' t := fun e he => (h e he).symm
theorem HR.to {w : FW} {η t t' k : Nat} {A A' : Nat → Int32} (hk : k < 2) (h : sameT A A' t t') (hr : HR w η A t k) : HR w η A' t' k := by
  unfold HR pun
  rw [h.H hk (by omega), h.H hk (by omega), h.H hk (by omega), h.H hk (by omega)]
  exact hr
theorem TR.to {w : FW} {τ t t' : Nat} {A A' : Nat → Int32} (h : sameT A A' t t') (h6 : aLen A t ≤ 6) (hr : TR w τ A t) : TR w τ A' t' := by
  obtain ⟨r1, r2, r3, r4, r5, r6, r7, r8⟩ := hr
  refine ⟨?_, ?_, ?_, ?_, ?_, ?_, r7.to (by omega) h, r8.to (by omega) h⟩
  · rw [h.n]
    exact r1.to (fun k hk => (h.L (by omega)).symm)
  · rw [h 7 (by omega)]; exact r2
  · rw [h 8 (by omega)]; exact r3
  · rw [h 9 (by omega)]; exact r4
  · rw [h 10 (by omega)]; exact r5
  · rw [h 11 (by omega)]; exact r6
theorem WTk.to {t t' : Nat} {A A' : Nat → Int32} (h : sameT A A' t t') (hw : WTk A t) : WTk A' t' := by
  obtain ⟨⟨n, a1, a2, a3, a4, a5⟩, b, c, d, e, f, g, i⟩ := hw
  refine ⟨⟨n, a1, a2, by rw [h 0 (by omega)]; exact a3, fun k hk => by rw [h.L (by omega)]; exact a4 k hk, fun k h1 h2 => by rw [h.L h2]; exact a5 k h1 h2⟩, by rw [h 7 (by omega)]; exact b, by rw [h 8 (by omega)]; exact c, by rw [h 9 (by omega)]; exact d, by rw [h 10 (by omega)]; exact e, by rw [h 11 (by omega)]; exact f, fun k hk => ?_, by rw [h 11 (by omega), h.H (by omega) (by omega)]; exact i⟩
  rw [h.H hk (by omega), h.H hk (by omega), h.H hk (by omega), h.H hk (by omega)]
  exact g k hk
/-- an office's cells -/
def OS (w : FW) (o : Nat) : Prop := w.1 o = 2 ∧ w.1 (o + 1) = 14 ∧ w.2.1 (o + 1) = 8 ∧ w.1 (o + 4) = 11 ∧ w.2.1 (o + 4) = 3 ∧ w.1 (o + 5) = 12 ∧ w.2.1 (o + 5) = 5 ∧ gR w 100 o 0 = o + 1 ∧ gR w 102 o 0 = o + 2 ∧ gR w 103 o 0 = o + 4 ∧ gR w 104 o 0 = o + 5 ∧
  WS w (o + 2) ∧ (∀ j, j < 8 → TS w (o + 6 + 5 * j)) ∧ (∀ j, j < 8 → ∃ i, i < 8 ∧ gR w 604 (o + 1) j = o + 6 + 5 * i) ∧ ∀ j k, j < 8 → k < 8 → gR w 604 (o + 1) j = gR w 604 (o + 1) k → j = k
/-- where ticket t of an office is -/
def tk (w : FW) (o t : Nat) : Nat := gR w 604 (o + 1) t
/-- the office at o is A -/
def OR (w : FW) (o : Nat) (A : Nat → Int32) : Prop := gI w 101 o 0 = A 0 ∧ gI w 105 o 0 = A 1 ∧ gI w 106 o 0 = A 2 ∧ gI w 107 o 0 = A 3 ∧ gI w 108 o 0 = A 4 ∧ gI w 109 o 0 = A 5 ∧ (∀ p, p < 3 → gI w 601 (o + 4) p = A (7 + p)) ∧ (∀ p, p < 5 → gI w 602 (o + 5) p = if aShut A p = 0 then 1 else 0) ∧
  WR w (o + 2) (A 10).toNatClampNeg (fun k => A (11 + k)) ∧ ∀ t, t < aN A → TR w (tk w o t) A t
theorem OS.tkt {w : FW} {o : Nat} (h : OS w o) {t : Nat} (ht : t < 8) : TS w (tk w o t) ∧ o + 6 ≤ tk w o t ∧ tk w o t + 5 ≤ o + 46 := by
  obtain ⟨-, -, -, -, -, -, -, -, -, -, -, -, h1, h2, -⟩ := h
  obtain ⟨i, hi, e⟩ := h2 t ht
  unfold tk
  rw [e]
  exact ⟨h1 i hi, by omega, by omega⟩
theorem OS.inj {w : FW} {o : Nat} (h : OS w o) {t t' : Nat} (ht : t < 8) (ht' : t' < 8) (hne : t ≠ t') : tk w o t + 5 ≤ tk w o t' ∨ tk w o t' + 5 ≤ tk w o t := by
  obtain ⟨-, -, -, -, -, -, -, -, -, -, -, -, h1, h2, h3⟩ := h
  obtain ⟨i, hi, e⟩ := h2 t ht
  obtain ⟨i', hi', e'⟩ := h2 t' ht'
  have : ¬ gR w 604 (o + 1) t = gR w 604 (o + 1) t' := fun z => hne (h3 t t' ht ht' z)
  unfold tk
  rw [e, e'] at this ⊢
  omega
theorem OS.fr {w w' : FW} {P : Nat → Prop} {o : Nat} (h : OS w o) (hf : Fr w w' P) (hP : ∀ q, o ≤ q → q < o + 46 → ¬ P q) : OS w' o := by
  obtain ⟨k1, k2, l1, k3, l2, k4, l3, r1, r2, r3, r4, hw, ht, hi, hj⟩ := h
  have e : ∀ j, gR w' 604 (o + 1) j = gR w 604 (o + 1) j := fun j => hf.2.2.2 _ _ _ (hP _ (by omega) (by omega))
  have n0 := hP o (by omega) (by omega)
  refine ⟨by rw [hf.1]; exact k1, by rw [hf.1]; exact k2, by rw [hf.2.1]; exact l1, by rw [hf.1]; exact k3, by rw [hf.2.1]; exact l2, by rw [hf.1]; exact k4, by rw [hf.2.1]; exact l3, by rw [hf.2.2.2 _ _ _ n0]; exact r1, by rw [hf.2.2.2 _ _ _ n0]; exact r2, by rw [hf.2.2.2 _ _ _ n0]; exact r3, by rw [hf.2.2.2 _ _ _ n0]; exact r4, hw.fr hf (hP _ (by omega) (by omega)) (hP _ (by omega) (by omega)), fun j hj9 => (ht j hj9).fr hf (fun q h1 h2 => hP q (by omega) (by omega)), fun j hj9 => by rw [e]; exact hi j hj9, fun j k h1 h2 => by rw [e, e]; exact hj j k h1 h2⟩
theorem OR.fr {w w' : FW} {P : Nat → Prop} {o : Nat} {A : Nat → Int32} (h : OR w o A) (hs : OS w o) (h8 : aN A ≤ 8) (hf : Fr w w' P) (hP : ∀ q, o ≤ q → q < o + 46 → ¬ P q) : OR w' o A := by
  obtain ⟨a1, a2, a3, a4, a5, a6, am, ap, ad, at9⟩ := h
  have n0 := hP o (by omega) (by omega)
  have e : ∀ j, tk w' o j = tk w o j := fun j => hf.2.2.2 _ _ _ (hP _ (by omega) (by omega))
  refine ⟨by rw [hf.2.2.1 _ _ _ n0]; exact a1, by rw [hf.2.2.1 _ _ _ n0]; exact a2, by rw [hf.2.2.1 _ _ _ n0]; exact a3, by rw [hf.2.2.1 _ _ _ n0]; exact a4, by rw [hf.2.2.1 _ _ _ n0]; exact a5, by rw [hf.2.2.1 _ _ _ n0]; exact a6, fun p hp => by rw [hf.2.2.1 _ _ _ (hP _ (by omega) (by omega))]; exact am p hp, fun p hp => by rw [hf.2.2.1 _ _ _ (hP _ (by omega) (by omega))]; exact ap p hp, ad.fr hf (hP _ (by omega) (by omega)) (hP _ (by omega) (by omega)), fun t ht => ?_⟩
  rw [e]
  have := hs.tkt (t := t) (by omega)
  exact (at9 t ht).fr hf (fun q h1 h2 => hP q (by omega) (by omega))
