/-! What binds the class and the reference -/
def DY (b : Nat) (A : Nat → Int32) : Prop := ∃ d, d ≤ b ∧ A 1 = nI d
def DS (b : Nat) (fl : Nat → Int32) (ar : Nat → Nat → Int32) (n : Nat) : Prop := DY b (ar 1) ∧ (∀ i, i < n → DY b (fun j => ar 4 (177 * i + j))) ∧ (fl 506 = 1 → DY b (ar 3))
/-- the class's numbers, its buffer, its line -/
def NB (w : FW) (x : Nat) (fl : Nat → Int32) (ar : Nat → Nat → Int32) : Prop := gI w 411 x 0 = fl 515 ∧ gI w 412 x 0 = fl 516 ∧ gI w 413 x 0 = fl 513 ∧ gI w 414 x 0 = fl 514 ∧
  (∃ L, L ≤ 60 ∧ gI w 408 x 0 = nI L ∧ fl 511 = nI L ∧ ∀ i, i < L → gI w 600 (x + 142) i = ar 5 i ∧ ∃ c, 32 ≤ c ∧ c ≤ 126 ∧ ar 5 i = nI c) ∧
  ∃ L, L ≤ 17 ∧ gI w 410 x 0 = nI L ∧ fl 512 = nI L ∧ ∀ i, i < L → gI w 600 (x + 143) i = ar 7 i ∧ fch (ar 7 i) = ar 7 i
def JP (b : Nat) (w : FW) (x : Nat) (fl : Nat → Int32) (ar : Nat → Nat → Int32) (n : Nat) : Prop := CR w x (ar 1) n (ar 4) (fl 506) (ar 3) ∧ fl 505 = nI n ∧ NB w x fl ar ∧ DS b fl ar n
def flW (w : FW) (M : Nat) : Nat → Int32 := fun c => gI w c M 0
def arW (w : FW) (M : Nat) : Nat → Nat → Int32 := fun k i => gI w 601 (M + k) i
def JJ (b : Nat) (w : FW) (x : Nat) : Prop := MB w (x + 512) ∧ ∃ n, JP b w x (flW w (x + 512)) (arW w (x + 512)) n
theorem mW_me (w : FW) (M : Nat) : mW w M (flW w M) (arW w M) = w := mW_self w M
theorem flW_mW (w : FW) (M : Nat) (fl : Nat → Int32) (ar : Nat → Nat → Int32) : flW (mW w M fl ar) M = fl := by
  funext c
  exact mW_f w M fl ar c
theorem arW_mW (w : FW) (M : Nat) (fl : Nat → Int32) (ar : Nat → Nat → Int32) {k : Nat} (h1 : 1 ≤ k) (h8 : k ≤ 8) : arW (mW w M fl ar) M k = ar k := by
  funext i
  exact mW_ak w M fl ar h1 h8 i
theorem mW_fr (w : FW) (M : Nat) (fl : Nat → Int32) (ar : Nat → Nat → Int32) : Fr w (mW w M fl ar) (fun a => M ≤ a) := by
  refine ⟨rfl, rfl, fun c a i h => ?_, fun _ _ _ _ => rfl⟩
  have h1 : ¬ a = M := fun z => h (by omega)
  have h2 : ¬ (c = 601 ∧ M < a ∧ a ≤ M + 8) := fun z => h (by omega)
  show (if a = M then (if i = 0 then fl c else w.2.2.1 c a i) else if c = 601 ∧ M < a ∧ a ≤ M + 8 then ar (a - M) i else w.2.2.1 c a i) = _
  rw [if_neg h1, if_neg h2]
  rfl
theorem NB.to {w w' : FW} {x : Nat} {fl fl' : Nat → Int32} {ar ar' : Nat → Nat → Int32} (h : NB w x fl ar) (g : ∀ c, (c = 408 ∨ c = 410 ∨ c = 411 ∨ c = 412 ∨ c = 413 ∨ c = 414) → gI w' c x 0 = gI w c x 0) (gb : ∀ a, a = x + 142 ∨ a = x + 143 → ∀ i, gI w' 600 a i = gI w 600 a i) (hf : ∀ c, (c = 511 ∨ c = 512 ∨ c = 513 ∨ c = 514 ∨ c = 515 ∨ c = 516) → fl' c = fl c) (h5 : ar' 5 = ar 5) (h7 : ar' 7 = ar 7) : NB w' x fl' ar' := by
  obtain ⟨a1, a2, a3, a4, ⟨L, b1, b2, b3, b4⟩, ⟨L', c1, c2, c3, c4⟩⟩ := h
  refine ⟨by rw [g 411 (by omega), hf 515 (by omega)]; exact a1, by rw [g 412 (by omega), hf 516 (by omega)]; exact a2, by rw [g 413 (by omega), hf 513 (by omega)]; exact a3, by rw [g 414 (by omega), hf 514 (by omega)]; exact a4, ⟨L, b1, by rw [g 408 (by omega)]; exact b2, by rw [hf 511 (by omega)]; exact b3, fun i hi => by rw [gb _ (Or.inl rfl), h5]; exact b4 i hi⟩, ⟨L', c1, by rw [g 410 (by omega)]; exact c2, by rw [hf 512 (by omega)]; exact c3, fun i hi => by rw [gb _ (Or.inr rfl), h7]; exact c4 i hi⟩⟩
theorem JJ.mk {b : Nat} {w : FW} {x n : Nat} {fl : Nat → Int32} {ar : Nat → Nat → Int32} (hB : MB w (x + 512)) (h : JP b w x fl ar n) : JJ b (mW w (x + 512) fl ar) x := by
  refine ⟨hB, n, ?_⟩
  have hf := mW_fr w (x + 512) fl ar
  obtain ⟨C, h5, hN, hD⟩ := h
  unfold JP
  have eN : NB (mW w (x + 512) fl ar) x fl (arW (mW w (x + 512) fl ar) (x + 512)) := hN.to (fun c hc => hf.2.2.1 _ _ _ (by omega)) (fun a ha i => hf.2.2.1 _ _ _ (by omega)) (fun _ _ => rfl) (arW_mW w _ fl ar (by omega) (by omega)) (arW_mW w _ fl ar (by omega) (by omega))
  have eD : DS b fl (arW (mW w (x + 512) fl ar) (x + 512)) n := by
    unfold DS
    rw [arW_mW w _ fl ar (show 1 ≤ 1 by omega) (by omega), arW_mW w _ fl ar (show 1 ≤ 3 by omega) (by omega), arW_mW w _ fl ar (show 1 ≤ 4 by omega) (by omega)]
    exact hD
  rw [flW_mW, arW_mW w _ fl ar (show 1 ≤ 1 by omega) (by omega), arW_mW w _ fl ar (show 1 ≤ 3 by omega) (by omega), arW_mW w _ fl ar (show 1 ≤ 4 by omega) (by omega)]
  exact ⟨C.ref hf, h5, eN, eD⟩
/-- the reference's world behind an act of the class -/
theorem KP.ref {w w' : FW} {x : Nat} (h : KP w w' x) (hB : MB w (x + 512)) : MB w' (x + 512) ∧ flW w' (x + 512) = flW w (x + 512) ∧ arW w' (x + 512) = arW w (x + 512) := by
  obtain ⟨-, -, k, l, g, r⟩ := h
  refine ⟨?_, ?_, ?_⟩
  · unfold MB
    rw [k, l, r _ _ _ (by omega), r _ _ _ (by omega), r _ _ _ (by omega), r _ _ _ (by omega), r _ _ _ (by omega), r _ _ _ (by omega), r _ _ _ (by omega), r _ _ _ (by omega)]
    exact hB
  · funext c
    exact g _ _ _ (by omega)
  · funext k i
    exact g _ _ _ (by omega)
theorem DY.up {b b' : Nat} {A : Nat → Int32} (h : DY b A) (hb : b ≤ b') : DY b' A := by
  obtain ⟨d, h1, h2⟩ := h
  exact ⟨d, by omega, h2⟩
theorem DY.cg {b : Nat} {A A' : Nat → Int32} (h : DY b A) (e : A' 1 = A 1) : DY b A' := by
  obtain ⟨d, h1, h2⟩ := h
  exact ⟨d, h1, e.trans h2⟩
theorem DS.up {b b' n : Nat} {fl : Nat → Int32} {ar : Nat → Nat → Int32} (h : DS b fl ar n) (hb : b ≤ b') : DS b' fl ar n := ⟨h.1.up hb, fun i hi => (h.2.1 i hi).up hb, fun z => (h.2.2 z).up hb⟩
/-- the days behind a push -/
theorem DS.push {b n : Nat} {fl fl' F A' : Nat → Int32} {ar ar' : Nat → Nat → Int32} (h : DS b fl ar n) (h8 : n ≤ 8) (hF : F 1 = ar 1 1) (e6 : fl' 506 = fl 506) (e1 : ar' 1 = A') (hA : DY b A') (e3 : ar' 3 = ar 3) (e4 : ar' 4 = hPush n F (ar 4)) : DS b fl' ar' (if n = 8 then 8 else n + 1) := by
  obtain ⟨h1, h2, h3⟩ := h
  refine ⟨by rw [e1]; exact hA, fun i hi => ?_, fun z => by rw [e3]; exact h3 (by rw [← e6]; exact z)⟩
  rw [e4]
  by_cases hn : n = 8
  · rw [if_pos hn] at hi
    by_cases i7 : i = 7
    · refine h1.cg ?_
      show hPush n F (ar 4) (177 * i + 1) = ar 1 1
      unfold hPush
      rw [if_pos hn, if_neg (by omega), if_pos (by omega), show 177 * i + 1 - 1239 = 1 by omega, hF]
    · refine (h2 (i + 1) (by omega)).cg ?_
      show hPush n F (ar 4) (177 * i + 1) = ar 4 (177 * (i + 1) + 1)
      unfold hPush
      rw [if_pos hn, if_pos (by omega)]
      exact congrArg (ar 4) (by omega)
  · rw [if_neg hn] at hi
    by_cases i7 : i = n
    · refine h1.cg ?_
      show hPush n F (ar 4) (177 * i + 1) = ar 1 1
      unfold hPush
      rw [if_neg hn, if_pos (by omega), show 177 * i + 1 - 177 * n = 1 by omega, hF]
    · refine (h2 i (by omega)).cg ?_
      show hPush n F (ar 4) (177 * i + 1) = ar 4 (177 * i + 1)
      unfold hPush
      rw [if_neg hn, if_neg (by omega)]
/-- what the law asks of a call that changes something -/
def KJ (b : Nat) (x : Nat) (es : List Nat) (cx : FW → Option ((Int32 ⊕ Nat) × FW)) (cm : FW → Option (Int32 × FW)) (w : FW) : Prop :=
  ∃ w2, (∃ (rx : Int32 ⊕ Nat) (w1 : FW) (b9 : Int32) (t : Int32), cx w = some (rx, w1) ∧ cm w1 = some (b9, w2) ∧ F_X5_thrown (x + 512) w2 = some t ∧ (∀ e, rx = .inr e → e ∈ es) ∧ t = wK es rx ∧ (∀ v, rx = .inl v → v = b9)) ∧ JJ b w2 x
/-- a public act: class and reference, where the class's act ends as the reference's -/
theorem join_act {b : Nat} {w : FW} {x n : Nat} {fl : Nat → Int32} {ar ar' : Nat → Nat → Int32} {es : List Nat} {cx : FW → Option ((Int32 ⊕ Nat) × FW)} {cm : FW → Option (Int32 × FW)} {k code : Int32} {r r' : Out} {G : FW → Option ((Int32 ⊕ Nat) × FW)}
    (hB : MB w (x + 512)) (hfl : flW w (x + 512) = fl) (har : arW w (x + 512) = ar) (J : JP b w x fl ar n)
    (hx : PB w x (ar 1) n (cp 177 (ar 1) (ar 2)) (ar 4) (fl 506) (ar 3) k r G (cx w))
    (hr : r'.1 = r.1 ∧ (¬ r.1 = 0 → r' = r))
    (hG : r.1 = 0 → ∀ w', CR w' x r.2.2 (if n = 8 then 8 else n + 1) (hPush n (cp 177 (ar 1) (ar 2)) (ar 4)) (fl 506) (ar 3) → w'.1 = w.1 → ∃ w'', G w' = some (.inl r'.2.1, w'') ∧ CR w'' x r'.2.2 (if n = 8 then 8 else n + 1) (hPush n (cp 177 (ar 1) (ar 2)) (ar 4)) (fl 506) (ar 3) ∧ KP w' w'' x)
    (hm : ∀ w1, MB w1 (x + 512) → cm (mW w1 (x + 512) fl ar) = some (eA code r', mW w1 (x + 512) (eF (rF fl) code n r') ar'))
    (a1 : ar' 1 = r'.2.2) (a3 : ar' 3 = ar 3) (a4 : ar' 4 = eH n (cp 177 (ar 1) (ar 2)) (ar 4) r') (a5 : ar' 5 = ar 5) (a7 : ar' 7 = ar 7)
    (hbad : ¬ r.1 = 0 → r'.2.2 = ar 1)
    (hdy : DY (b + 60) r'.2.2)
    (e4 : 0 < r.1 → 4 ∈ es ∧ wK es (.inr 4 : Int32 ⊕ Nat) = code) (e1 : r.1 = -1 → (if k = 1 then 2 else 1) ∈ es ∧ wK es (.inr (if k = 1 then 2 else 1) : Int32 ⊕ Nat) = 1) (e2 : r.1 = -2 → 1 ∈ es ∧ wK es (.inr 1 : Int32 ⊕ Nat) = 2) : KJ (b + 60) x es cx cm w := by
  obtain ⟨C, h5, hN, hD⟩ := id J
  have h8 : n ≤ 8 := C.2.2.2.2.1
  rcases hx with ⟨h0, w1, e, C1, K1⟩ | ⟨h0, w1, C1, K1, e⟩ | ⟨h0, w1, C1, K1, e⟩ | ⟨h0, w1, C1, K1, e⟩
  · obtain ⟨w2, g1, C2, K2⟩ := hG h0 w1 C1 K1.2.2.1
    obtain ⟨m1, m2, m3⟩ := (K1.tr K2).ref hB
    have em := hm w2 m1
    have hr0 : r'.1 = 0 := hr.1.trans h0
    have ew : mW w2 (x + 512) fl ar = w2 := by rw [← hfl, ← har, ← m2, ← m3]; exact mW_me w2 _
    rw [ew] at em
    have f0 : eF (rF fl) code n r' = up (up (rF fl) 518 r'.2.1) 505 (nI (if n = 8 then 8 else n + 1)) := by unfold eF; rw [if_pos hr0]
    rw [f0] at em
    have H4 : ar' 4 = hPush n (cp 177 (ar 1) (ar 2)) (ar 4) := by rw [a4]; unfold eH; rw [if_pos hr0]
    have fx : ∀ c, ¬ c = 518 → ¬ c = 505 → ¬ c = 500 → up (up (rF fl) 518 r'.2.1) 505 (nI (if n = 8 then 8 else n + 1)) c = fl c := fun c c1 c2 c3 => by rw [up_n c2, up_n c1, rF_n c3]
    have K := K1.tr K2
    refine ⟨_, ⟨.inl r'.2.1, w2, _, 0, e.trans g1, em, ?_, fun e he => (by cases he), rfl, fun v hv => ?_⟩, JJ.mk m1 (n := if n = 8 then 8 else n + 1) ⟨?_, ?_, ?_, ?_⟩⟩
    · rw [m_thrown m1, up_n (by omega), up_n (by omega)]
      exact congrArg some (up_s _ _ _)
    · cases hv
      unfold eA
      rw [if_pos hr0]
    · rw [a1, a3, H4, fx 506 (by omega) (by omega) (by omega)]
      exact C2
    · exact up_s _ _ _
    · exact hN.to (fun c hc => K.1 c (by omega)) K.2.1 (fun c hc => fx c (by omega) (by omega) (by omega)) a5 a7
    · exact (hD.up (show b ≤ b + 60 by omega)).push h8 (cp_l (by omega)) (fx 506 (by omega) (by omega) (by omega)) a1 hdy a3 H4
  · have hne : ¬ r.1 = 0 := fun z => by rw [z] at h0; exact absurd h0 (by decide)
    have hrr := hr.2 hne
    subst hrr
    obtain ⟨m1, m2, m3⟩ := K1.ref hB
    have mB : MB (sI (sI w1 411 x 0 r'.1) 412 x 0 r'.2.1) (x + 512) := m1
    have em := hm _ mB
    have ew : mW (sI (sI w1 411 x 0 r'.1) 412 x 0 r'.2.1) (x + 512) fl ar = sI (sI w1 411 x 0 r'.1) 412 x 0 r'.2.1 := by
      have q1 : flW (sI (sI w1 411 x 0 r'.1) 412 x 0 r'.2.1) (x + 512) = fl := by
        rw [← hfl, ← m2]
        funext c
        show gI (sI (sI w1 411 x 0 r'.1) 412 x 0 r'.2.1) c (x + 512) 0 = gI w1 c (x + 512) 0
        rw [gI_sI, if_neg (by omega), gI_sI, if_neg (by omega)]
      have q2 : arW (sI (sI w1 411 x 0 r'.1) 412 x 0 r'.2.1) (x + 512) = ar := by
        rw [← har, ← m3]
        funext j i
        show gI (sI (sI w1 411 x 0 r'.1) 412 x 0 r'.2.1) 601 (x + 512 + j) i = gI w1 601 (x + 512 + j) i
        rw [gI_sI, if_neg (by omega), gI_sI, if_neg (by omega)]
      rw [← q1, ← q2]
      exact mW_me _ _
    rw [ew] at em
    have hle : 0 ≤ r'.1 := by
      rw [Int32.lt_iff_toInt_lt] at h0
      rw [Int32.le_iff_toInt_le]
      omega
    have f0 : eF (rF fl) code n r' = up (up (up (up (rF fl) 517 r'.2.1) 515 r'.1) 516 r'.2.1) 500 code := by unfold eF; rw [if_neg hne, if_pos hle]
    rw [f0] at em
    have H4 : ar' 4 = ar 4 := by rw [a4]; unfold eH; rw [if_neg hne]
    have H1 : ar' 1 = ar 1 := a1.trans (hbad hne)
    have fx : ∀ c, ¬ c = 517 → ¬ c = 515 → ¬ c = 516 → ¬ c = 500 → up (up (up (up (rF fl) 517 r'.2.1) 515 r'.1) 516 r'.2.1) 500 code c = fl c := fun c c1 c2 c3 c4 => by rw [up_n c4, up_n c3, up_n c2, up_n c1, rF_n c4]
    refine ⟨_, ⟨.inr 4, _, _, code, e, em, ?_, fun e he => by cases he; exact (e4 h0).1, (e4 h0).2.symm, fun v hv => by cases hv⟩, JJ.mk mB (n := n) ⟨?_, ?_, ?_, ?_⟩⟩
    · rw [m_thrown mB]
      exact congrArg some (up_s _ _ _)
    · rw [H1, a3, H4, fx 506 (by omega) (by omega) (by omega) (by omega)]
      exact (C1.nm _ (by omega) (by omega) (by omega)).nm _ (by omega) (by omega) (by omega)
    · rw [fx 505 (by omega) (by omega) (by omega) (by omega)]
      exact h5
    · obtain ⟨n1, n2, n3, n4, ⟨L, b1, b2, b3, b4⟩, ⟨L', c1, c2, c3, c4⟩⟩ := hN
      have g : ∀ c, ¬ c = 411 → ¬ c = 412 → ¬ c = 405 → gI (sI (sI w1 411 x 0 r'.1) 412 x 0 r'.2.1) c x 0 = gI w c x 0 := fun c y1 y2 y3 => by
        rw [gI_sI, if_neg (by omega), gI_sI, if_neg (by omega)]
        exact K1.1 c y3
      have gb : ∀ a, a = x + 142 ∨ a = x + 143 → ∀ i, gI (sI (sI w1 411 x 0 r'.1) 412 x 0 r'.2.1) 600 a i = gI w 600 a i := fun a ha i => by
        rw [gI_sI, if_neg (by omega), gI_sI, if_neg (by omega)]
        exact K1.2.1 a ha i
      refine ⟨?_, ?_, ?_, ?_, ⟨L, b1, ?_, ?_, fun i hi => ?_⟩, ⟨L', c1, ?_, ?_, fun i hi => ?_⟩⟩
      · rw [gI_sI, if_neg (by omega), gI_s, up_n (by omega), up_n (by omega), up_s]
      · rw [gI_s, up_n (by omega), up_s]
      · rw [g 413 (by omega) (by omega) (by omega), fx 513 (by omega) (by omega) (by omega) (by omega)]
        exact n3
      · rw [g 414 (by omega) (by omega) (by omega), fx 514 (by omega) (by omega) (by omega) (by omega)]
        exact n4
      · rw [g 408 (by omega) (by omega) (by omega)]
        exact b2
      · rw [fx 511 (by omega) (by omega) (by omega) (by omega)]
        exact b3
      · rw [gb _ (Or.inl rfl), a5]
        exact b4 i hi
      · rw [g 410 (by omega) (by omega) (by omega)]
        exact c2
      · rw [fx 512 (by omega) (by omega) (by omega) (by omega)]
        exact c3
      · rw [gb _ (Or.inr rfl), a7]
        exact c4 i hi
    · have hu := hD.up (show b ≤ b + 60 by omega)
      refine ⟨by rw [H1]; exact hu.1, fun i hi => by rw [H4]; exact hu.2.1 i hi, fun z => by rw [a3]; exact hu.2.2 (by rw [← fx 506 (by omega) (by omega) (by omega) (by omega)]; exact z)⟩
  all_goals
    have hne : ¬ r.1 = 0 := fun z => by rw [z] at h0; exact absurd h0 (by decide)
    have hrr := hr.2 hne
    subst hrr
    obtain ⟨m1, m2, m3⟩ := K1.ref hB
    have em := hm _ m1
    have ew : mW w1 (x + 512) fl ar = w1 := by rw [← hfl, ← har, ← m2, ← m3]; exact mW_me w1 _
    rw [ew] at em
    have hle : ¬ 0 ≤ r'.1 := by rw [h0]; decide
    have f0 : eF (rF fl) code n r' = up (rF fl) 500 (-r'.1) := by unfold eF; rw [if_neg hne, if_neg hle]
    rw [f0] at em
    have H4 : ar' 4 = ar 4 := by rw [a4]; unfold eH; rw [if_neg hne]
    have H1 : ar' 1 = ar 1 := a1.trans (hbad hne)
    have fx : ∀ c, ¬ c = 500 → up (rF fl) 500 (-r'.1) c = fl c := fun c c4 => by rw [up_n c4, rF_n c4]
    have hu := hD.up (show b ≤ b + 60 by omega)
    have hJ : JP (b + 60) w1 x (up (rF fl) 500 (-r'.1)) ar' n := by
      refine ⟨?_, (fx 505 (by omega)).trans h5, hN.to (fun c hc => K1.1 c (by omega)) K1.2.1 (fun c hc => fx c (by omega)) a5 a7, by rw [H1]; exact hu.1, fun i hi => by rw [H4]; exact hu.2.1 i hi, fun z => by rw [a3]; exact hu.2.2 (by rw [← fx 506 (by omega)]; exact z)⟩
      rw [H1, a3, H4, fx 506 (by omega)]
      exact C1
  · refine ⟨_, ⟨_, w1, _, 1, e, em, ?_, fun e he => by cases he; exact (e1 h0).1, (e1 h0).2.symm, fun v hv => by cases hv⟩, JJ.mk m1 hJ⟩
    rw [m_thrown m1, up_s, h0]
    rfl
  · refine ⟨_, ⟨_, w1, _, 2, e, em, ?_, fun e he => by cases he; exact (e2 h0).1, (e2 h0).2.symm, fun v hv => by cases hv⟩, JJ.mk m1 hJ⟩
    rw [m_thrown m1, up_s, h0]
    rfl
