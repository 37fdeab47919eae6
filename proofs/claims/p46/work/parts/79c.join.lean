/-! What binds the class and the reference -/
def DY (b : Nat) (A : Nat → Int32) : Prop := ∃ d, d ≤ b ∧ A 1 = nI d
def DS (b : Nat) (fl : Nat → Int32) (ar : Nat → Nat → Int32) (n : Nat) : Prop := DY b (ar 1) ∧ (∀ i, i < n → DY b (fun j => ar 4 (177 * i + j))) ∧ (fl 506 = 1 → DY b (ar 3))
/-- the class's numbers, its buffer, its line -/
def NB (w : FW) (x : Nat) (fl : Nat → Int32) (ar : Nat → Nat → Int32) : Prop := gI w 411 x 0 = fl 515 ∧ gI w 412 x 0 = fl 516 ∧ gI w 413 x 0 = fl 513 ∧ gI w 414 x 0 = fl 514 ∧
  (∃ L, L ≤ 60 ∧ gI w 408 x 0 = nI L ∧ fl 511 = nI L ∧ ∀ i, i < L → gI w 600 (x + 142) i = ar 5 i ∧ ∃ c, 32 ≤ c ∧ c ≤ 126 ∧ ar 5 i = nI c) ∧
  ∃ L, L ≤ 17 ∧ gI w 410 x 0 = nI L ∧ fl 512 = nI L ∧ ∀ i, i < L → gI w 600 (x + 143) i = ar 7 i ∧ fch (ar 7 i) = ar 7 i
def JP (b : Nat) (w : FW) (x : Nat) (fl : Nat → Int32) (ar : Nat → Nat → Int32) (n : Nat) : Prop := CR w x (ar 1) n (ar 4) (fl 506) (ar 3) ∧ fl 505 = nI n ∧ NB w x fl ar ∧ DS b fl ar n
def flW (w : FW) (M : Nat) : Nat → Int32 := fun c => gI w c M 0
def arW (w : FW) (M : Nat) : Nat → Nat → Int32 := fun k i => gI w 601 (M + k) i
def JJ (b : Nat) (w : FW) (x : Nat) : Prop := MB w (x + 512) ∧ ∃ n, JP b w x (flW w (x + 512)) (arW w (x + 512)) n
theorem mW_me (w : FW) (M : Nat) : mW w M (flW w M) (arW w M) = w := mW_self w M
theorem flW_mW (w : FW) (M : Nat) (fl : Nat → Int32) (ar : Nat → Nat → Int32) : flW (mW w M fl ar) M = fl := by
  funext c
  exact mW_f w M fl ar c
theorem arW_mW (w : FW) (M : Nat) (fl : Nat → Int32) (ar : Nat → Nat → Int32) {k : Nat} (h1 : 1 ≤ k) (h8 : k ≤ 8) : arW (mW w M fl ar) M k = ar k := by
  funext i
  exact mW_ak w M fl ar h1 h8 i
theorem mW_fr (w : FW) (M : Nat) (fl : Nat → Int32) (ar : Nat → Nat → Int32) : Fr w (mW w M fl ar) (fun a => M ≤ a) := by
  refine ⟨rfl, rfl, fun c a i h => ?_, fun _ _ _ _ => rfl⟩
  have h1 : ¬ a = M := fun z => h (by omega)
  have h2 : ¬ (c = 601 ∧ M < a ∧ a ≤ M + 8) := fun z => h (by omega)
  show (if a = M then (if i = 0 then fl c else w.2.2.1 c a i) else if c = 601 ∧ M < a ∧ a ≤ M + 8 then ar (a - M) i else w.2.2.1 c a i) = _
  rw [if_neg h1, if_neg h2]
  rfl
theorem NB.to {w w' : FW} {x : Nat} {fl fl' : Nat → Int32} {ar ar' : Nat → Nat → Int32} (h : NB w x fl ar) (g : ∀ c, (c = 408 ∨ c = 410 ∨ c = 411 ∨ c = 412 ∨ c = 413 ∨ c = 414) → gI w' c x 0 = gI w c x 0) (gb : ∀ a, a = x + 142 ∨ a = x + 143 → ∀ i, gI w' 600 a i = gI w 600 a i) (hf : ∀ c, (c = 511 ∨ c = 512 ∨ c = 513 ∨ c = 514 ∨ c = 515 ∨ c = 516) → fl' c = fl c) (h5 : ar' 5 = ar 5) (h7 : ar' 7 = ar 7) : NB w' x fl' ar' := by
  obtain ⟨a1, a2, a3, a4, ⟨L, b1, b2, b3, b4⟩, ⟨L', c1, c2, c3, c4⟩⟩ := h
  refine ⟨by rw [g 411 (by omega), hf 515 (by omega)]; exact a1, by rw [g 412 (by omega), hf 516 (by omega)]; exact a2, by rw [g 413 (by omega), hf 513 (by omega)]; exact a3, by rw [g 414 (by omega), hf 514 (by omega)]; exact a4, ⟨L, b1, by rw [g 408 (by omega)]; exact b2, by rw [hf 511 (by omega)]; exact b3, fun i hi => by rw [gb _ (Or.inl rfl), h5]; exact b4 i hi⟩, ⟨L', c1, by rw [g 410 (by omega)]; exact c2, by rw [hf 512 (by omega)]; exact c3, fun i hi => by rw [gb _ (Or.inr rfl), h7]; exact c4 i hi⟩⟩
theorem JJ.mk {b : Nat} {w : FW} {x n : Nat} {fl : Nat → Int32} {ar : Nat → Nat → Int32} (hB : MB w (x + 512)) (h : JP b w x fl ar n) : JJ b (mW w (x + 512) fl ar) x := by
  refine ⟨hB, n, ?_⟩
  have hf := mW_fr w (x + 512) fl ar
  obtain ⟨C, h5, hN, hD⟩ := h
  unfold JP
  have eN : NB (mW w (x + 512) fl ar) x fl (arW (mW w (x + 512) fl ar) (x + 512)) := hN.to (fun c hc => hf.2.2.1 _ _ _ (by omega)) (fun a ha i => hf.2.2.1 _ _ _ (by omega)) (fun _ _ => rfl) (arW_mW w _ fl ar (by omega) (by omega)) (arW_mW w _ fl ar (by omega) (by omega))
  have eD : DS b fl (arW (mW w (x + 512) fl ar) (x + 512)) n := by
    unfold DS
    rw [arW_mW w _ fl ar (show 1 ≤ 1 by omega) (by omega), arW_mW w _ fl ar (show 1 ≤ 3 by omega) (by omega), arW_mW w _ fl ar (show 1 ≤ 4 by omega) (by omega)]
    exact hD
  rw [flW_mW, arW_mW w _ fl ar (show 1 ≤ 1 by omega) (by omega), arW_mW w _ fl ar (show 1 ≤ 3 by omega) (by omega), arW_mW w _ fl ar (show 1 ≤ 4 by omega) (by omega)]
  exact ⟨C.ref hf, h5, eN, eD⟩
/-- the reference's world behind an act of the class -/
theorem KP.ref {w w' : FW} {x : Nat} (h : KP w w' x) (hB : MB w (x + 512)) : MB w' (x + 512) ∧ flW w' (x + 512) = flW w (x + 512) ∧ arW w' (x + 512) = arW w (x + 512) := by
  obtain ⟨-, -, k, l, g, r⟩ := h
  refine ⟨?_, ?_, ?_⟩
  · unfold MB
    rw [k, l, r _ _ _ (by omega), r _ _ _ (by omega), r _ _ _ (by omega), r _ _ _ (by omega), r _ _ _ (by omega), r _ _ _ (by omega), r _ _ _ (by omega), r _ _ _ (by omega)]
    exact hB
  · funext c
    exact g _ _ _ (by omega)
  · funext k i
    exact g _ _ _ (by omega)
theorem DY.up {b b' : Nat} {A : Nat → Int32} (h : DY b A) (hb : b ≤ b') : DY b' A := by
  obtain ⟨d, h1, h2⟩ := h
  exact ⟨d, by omega, h2⟩
theorem DY.cg {b : Nat} {A A' : Nat → Int32} (h : DY b A) (e : A' 1 = A 1) : DY b A' := by
  obtain ⟨d, h1, h2⟩ := h
  exact ⟨d, h1, e.trans h2⟩
theorem DS.up {b b' n : Nat} {fl : Nat → Int32} {ar : Nat → Nat → Int32} (h : DS b fl ar n) (hb : b ≤ b') : DS b' fl ar n := ⟨h.1.up hb, fun i hi => (h.2.1 i hi).up hb, fun z => (h.2.2 z).up hb⟩
/-- the days behind a push -/
theorem DS.push {b n : Nat} {fl fl' F A' : Nat → Int32} {ar ar' : Nat → Nat → Int32} (h : DS b fl ar n) (h8 : n ≤ 8) (hF : F 1 = ar 1 1) (e6 : fl' 506 = fl 506) (e1 : ar' 1 = A') (hA : DY b A') (e3 : ar' 3 = ar 3) (e4 : ar' 4 = hPush n F (ar 4)) : DS b fl' ar' (if n = 8 then 8 else n + 1) := by
  obtain ⟨h1, h2, h3⟩ := h
  refine ⟨by rw [e1]; exact hA, fun i hi => ?_, fun z => by rw [e3]; exact h3 (by rw [← e6]; exact z)⟩
  rw [e4]
  by_cases hn : n = 8
  · rw [if_pos hn] at hi
    by_cases i7 : i = 7
    · refine h1.cg ?_
      show hPush n F (ar 4) (177 * i + 1) = ar 1 1
      unfold hPush
      rw [if_pos hn, if_neg (by omega), if_pos (by omega), show 177 * i + 1 - 1239 = 1 by omega, hF]
    · refine (h2 (i + 1) (by omega)).cg ?_
      show hPush n F (ar 4) (177 * i + 1) = ar 4 (177 * (i + 1) + 1)
      unfold hPush
      rw [if_pos hn, if_pos (by omega)]
      exact congrArg (ar 4) (by omega)
  · rw [if_neg hn] at hi
    by_cases i7 : i = n
    · refine h1.cg ?_
      show hPush n F (ar 4) (177 * i + 1) = ar 1 1
      unfold hPush
      rw [if_neg hn, if_pos (by omega), show 177 * i + 1 - 177 * n = 1 by omega, hF]
    · refine (h2 i (by omega)).cg ?_
      show hPush n F (ar 4) (177 * i + 1) = ar 4 (177 * i + 1)
      unfold hPush
      rw [if_neg hn, if_neg (by omega)]
