/-! append -/
def shN (k : Nat) : Int32 := 24 - 8 * nI k
def apC (a : Int32) (k : Nat) : Int32 := (fushr a (shN k)) &&& 255
def apBad (a : Int32) (k : Nat) : Prop := ¬ apC a k = 0 ∧ inn (apC a k) 32 126 = 0
def cn (a : Int32) : Nat → Nat
  | 0 => 0
  | k + 1 => if apC a k = 0 then cn a k else cn a k + 1
def okk (a : Int32) : Nat → Int32
  | 0 => 1
  | k + 1 => if okk a k = 0 then 0 else if apC a k = 0 then 1 else if inn (apC a k) 32 126 = 0 then 0 else 1
def apF (a : Int32) (L : Nat) (f : Nat → Int32) : Nat → Nat → Int32
  | 0 => f
  | k + 1 => if apC a k = 0 then apF a L f k else up (apF a L f k) (L + cn a k) (apC a k)
theorem shN_t : ∀ k, k < 4 → ¬ shN k < 0 ∧ shN k + (-8) = shN (k + 1) := by decide +kernel
theorem shN_4 : shN 4 < 0 := by decide +kernel
theorem shN_0 : shN 0 = 24 := by decide +kernel
theorem cn_le (a : Int32) (k : Nat) : cn a k ≤ k := by
  induction k with
  | zero => exact Nat.le_refl _
  | succ k ih =>
    show (if apC a k = 0 then cn a k else cn a k + 1) ≤ k + 1
    split <;> omega
theorem cn_mono (a : Int32) {j k : Nat} (h : j ≤ k) : cn a j ≤ cn a k := by
  induction k with
  | zero =>
    have : j = 0 := by omega
    rw [this]
    exact Nat.le_refl _
  | succ k ih =>
    by_cases z : j = k + 1
    · rw [z]
      exact Nat.le_refl _
    · have := ih (by omega)
      show cn a j ≤ if apC a k = 0 then cn a k else cn a k + 1
      split <;> omega
theorem cn_s0 {a : Int32} {k : Nat} (h : apC a k = 0) : cn a (k + 1) = cn a k := if_pos h
theorem cn_s1 {a : Int32} {k : Nat} (h : ¬ apC a k = 0) : cn a (k + 1) = cn a k + 1 := if_neg h
theorem okk_c (a : Int32) (k : Nat) : (okk a k = 1 ∧ ∀ j, j < k → ¬ apBad a j) ∨ (okk a k = 0 ∧ ∃ j, j < k ∧ apBad a j) := by
  induction k with
  | zero => exact Or.inl ⟨rfl, fun j hj => by omega⟩
  | succ k ih =>
    have e : okk a (k + 1) = if okk a k = 0 then 0 else if apC a k = 0 then 1 else if inn (apC a k) 32 126 = 0 then 0 else 1 := rfl
    rcases ih with ⟨h1, h2⟩ | ⟨h1, j, h2, h3⟩
    · rw [e, h1, if_neg (by decide)]
      by_cases c : apC a k = 0
      · rw [if_pos c]
        refine Or.inl ⟨rfl, fun j hj => ?_⟩
        by_cases z : j = k
        · rw [z]
          exact fun y => y.1 c
        · exact h2 j (by omega)
      · rw [if_neg c]
        by_cases d : inn (apC a k) 32 126 = 0
        · rw [if_pos d]
          exact Or.inr ⟨rfl, k, by omega, c, d⟩
        · rw [if_neg d]
          refine Or.inl ⟨rfl, fun j hj => ?_⟩
          by_cases z : j = k
          · rw [z]
            exact fun y => d y.2
          · exact h2 j (by omega)
    · rw [e, h1, if_pos rfl]
      exact Or.inr ⟨rfl, j, by omega, h3⟩
theorem ap_good {a : Int32} {k : Nat} (h : ¬ apBad a k) (h0 : ¬ apC a k = 0) : ∃ c, 32 ≤ c ∧ c ≤ 126 ∧ apC a k = nI c := inn_1 (a := 32) (b := 126) (by omega) (by omega) (fun z => h ⟨h0, z⟩)
theorem apF_c {a : Int32} {L : Nat} {f : Nat → Int32} (hf : ∀ i, i < L → ∃ c, 32 ≤ c ∧ c ≤ 126 ∧ f i = nI c) {k : Nat} (hb : ∀ j, j < k → ¬ apBad a j) : ∀ i, i < L + cn a k → ∃ c, 32 ≤ c ∧ c ≤ 126 ∧ apF a L f k i = nI c := by
  induction k with
  | zero => exact hf
  | succ k ih =>
    intro i hi
    show ∃ c, 32 ≤ c ∧ c ≤ 126 ∧ (if apC a k = 0 then apF a L f k else up (apF a L f k) (L + cn a k) (apC a k)) i = nI c
    by_cases c : apC a k = 0
    · rw [cn_s0 c] at hi
      rw [if_pos c]
      exact ih (fun j hj => hb j (by omega)) i hi
    · rw [cn_s1 c] at hi
      rw [if_neg c]
      by_cases z : i = L + cn a k
      · rw [z, up_s]
        exact ap_good (hb k (by omega)) c
      · rw [up_n z]
        exact ih (fun j hj => hb j (by omega)) i (by omega)
/-- the class's buffer is f, of L characters -/
def cB (w : FW) (x L : Nat) (f : Nat → Int32) : FW := sI (rW w 600 (x + 142) L f) 408 x 0 (nI L)
theorem gI_cB (w : FW) (x L : Nat) (f : Nat → Int32) (c a i : Nat) : gI (cB w x L f) c a i = if c = 408 ∧ a = x ∧ i = 0 then nI L else if c = 600 ∧ a = x + 142 ∧ i < L then f i else gI w c a i := rfl
theorem cB_s (w : FW) (x L : Nat) (f : Nat → Int32) (v : Int32) : sI (sI (cB w x L f) 600 (x + 142) L v) 408 x 0 (nI (L + 1)) = cB w x (L + 1) (up f L v) := by
  refine FW_ext rfl rfl (fun c a i => ?_) (fun _ _ _ => rfl)
  rw [gI_sI, gI_sI, gI_cB, gI_cB]
  by_cases h1 : c = 408 ∧ a = x ∧ i = 0
  · simp only [if_pos h1]
  · simp only [if_neg h1]
    by_cases h2 : c = 600 ∧ a = x + 142 ∧ i = L
    · simp only [if_pos h2, if_pos (show c = 600 ∧ a = x + 142 ∧ i < L + 1 from ⟨h2.1, h2.2.1, by omega⟩)]
      rw [h2.2.2, up_s]
    · simp only [if_neg h2]
      by_cases h3 : c = 600 ∧ a = x + 142 ∧ i < L
      · simp only [if_pos h3, if_pos (show c = 600 ∧ a = x + 142 ∧ i < L + 1 from ⟨h3.1, h3.2.1, by omega⟩)]
        rw [up_n (by omega)]
      · simp only [if_neg h3, if_neg (show ¬ (c = 600 ∧ a = x + 142 ∧ i < L + 1) from fun z => by omega)]
theorem cB_me {w : FW} {x L : Nat} {f : Nat → Int32} (h : gI w 408 x 0 = nI L) (hf : ∀ i, i < L → gI w 600 (x + 142) i = f i) : cB w x L f = w := by
  refine FW_ext rfl rfl (fun c a i => ?_) (fun _ _ _ => rfl)
  rw [gI_cB]
  by_cases h1 : c = 408 ∧ a = x ∧ i = 0
  · rw [if_pos h1, h1.1, h1.2.1, h1.2.2, h]
  · rw [if_neg h1]
    by_cases h2 : c = 600 ∧ a = x + 142 ∧ i < L
    · rw [if_pos h2, h2.1, h2.2.1, hf i h2.2.2]
    · rw [if_neg h2]
theorem CR.bfw {w : FW} {x n : Nat} {A H S : Nat → Int32} {sv : Int32} (C : CR w x A n H sv S) (L : Nat) (f : Nat → Int32) : CR (cB w x L f) x A n H sv S :=
  (C.chg (w' := cB w x L f) rfl rfl (fun _ _ _ => rfl) (fun c a i h => by rw [gI_cB, if_neg (by omega), if_neg (by omega)]) (fun i => by rw [gI_cB, if_neg (by omega), if_neg (by omega)]) (by rw [gI_cB, if_neg (by omega), if_neg (by omega)]) (by rw [gI_cB, if_neg (by omega), if_neg (by omega)])).1
section AP
variable {w : FW} {x : Nat}
theorem c_apCount (a : Int32) : fLoop (σ := Int32 × Int32) (ρ := (Int32) ⊕ ((Int32 ⊕ Nat) × FW)) (fun s1 => (if s1.2 < 0 then some (.inr (.inl s1.1)) else (if ((fushr a s1.2) &&& 255) = 0 then (if ((fushr a s1.2) &&& 255) = 0 then some (.inl ((s1.1 + 0), (s1.2 + (-8)))) else some (.inl ((s1.1 + 1), (s1.2 + (-8))))) else (if ((fushr a s1.2) &&& 255) < 32 then some (.inr (.inr (.inr 1, w))) else (if ((fushr a s1.2) &&& 255) ≤ 126 then (if ((fushr a s1.2) &&& 255) = 0 then some (.inl ((s1.1 + 0), (s1.2 + (-8)))) else some (.inl ((s1.1 + 1), (s1.2 + (-8))))) else some (.inr (.inr (.inr 1, w)))))))) (0, 24) = some (match (List.range 4).find? (fun k => decide (¬ apC a k = 0 ∧ inn (apC a k) 32 126 = 0)) with
    | some _ => .inr (.inr 1, w)
    | none => .inl (nI (cn a 4))) := by
  have h := fLoop_find (σ := Int32 × Int32) (ρ := (Int32) ⊕ ((Int32 ⊕ Nat) × FW)) (f := fun s1 => (if s1.2 < 0 then some (.inr (.inl s1.1)) else (if ((fushr a s1.2) &&& 255) = 0 then (if ((fushr a s1.2) &&& 255) = 0 then some (.inl ((s1.1 + 0), (s1.2 + (-8)))) else some (.inl ((s1.1 + 1), (s1.2 + (-8))))) else (if ((fushr a s1.2) &&& 255) < 32 then some (.inr (.inr (.inr 1, w))) else (if ((fushr a s1.2) &&& 255) ≤ 126 then (if ((fushr a s1.2) &&& 255) = 0 then some (.inl ((s1.1 + 0), (s1.2 + (-8)))) else some (.inl ((s1.1 + 1), (s1.2 + (-8))))) else some (.inr (.inr (.inr 1, w)))))))) (fun k => (nI (cn a k), shN k)) 4 (fun k => ¬ apC a k = 0 ∧ inn (apC a k) 32 126 = 0) (r := .inl (nI (cn a 4))) (q := fun _ => .inr (.inr 1, w)) (fun k hk hP => ?_) (fun k hk hP => ?_) ?_
  · have e0 : ((0 : Int32), (24 : Int32)) = (nI (cn a 0), shN 0) := by rw [shN_0]; rfl
    rw [e0]
    exact h
  · obtain ⟨s1, s2⟩ := shN_t k hk
    dsimp only
    rw [show (fushr a (shN k)) &&& 255 = apC a k from rfl]
    rw [if_neg s1, s2]
    by_cases c : apC a k = 0
    · rw [if_pos c, if_pos c, add0, cn_s0 c]
    · have g : ¬ inn (apC a k) 32 126 = 0 := fun z => hP ⟨c, z⟩
      have g1 : ¬ apC a k < 32 := fun z => g (if_pos z)
      have g2 : ¬ 126 < apC a k := fun z => g ((if_neg g1).trans (if_pos z))
      rw [if_neg c, if_neg g1, if_pos (le9 g2), if_neg c, nI_1, cn_s1 c]
  · obtain ⟨s1, s2⟩ := shN_t k hk
    dsimp only
    rw [show (fushr a (shN k)) &&& 255 = apC a k from rfl]
    rw [if_neg s1, if_neg hP.1]
    by_cases g1 : apC a k < 32
    · rw [if_pos g1]
    · rw [if_neg g1]
      have h2 : inn (apC a k) 32 126 = 0 := hP.2
      unfold inn at h2
      rw [if_neg g1] at h2
      by_cases g2 : 126 < apC a k
      · rw [if_neg (nle9 g2)]
      · rw [if_neg g2] at h2
        exact absurd h2 (by decide)
  · show (if shN 4 < 0 then _ else _) = _
    rw [if_pos shN_4]
theorem c_apWrite {n : Nat} {A H S : Nat → Int32} {sv : Int32} (C : CR w x A n H sv S) {L : Nat} {f : Nat → Int32} (h : gI w 408 x 0 = nI L) (hf : ∀ i, i < L → gI w 600 (x + 142) i = f i) (a : Int32) (hb : ∀ k, k < 4 → ¬ apBad a k) (h60 : L + cn a 4 ≤ 60) : fLoop (σ := Int32 × FW) (ρ := FW) (fun s19 => (if s19.1 < 0 then some (.inr s19.2) else (if ((fushr a s19.1) &&& 255) = 0 then some (.inl ((s19.1 + (-8)), s19.2)) else (if 60 ≤ (gI s19.2 408 x 0) then some (.inl ((s19.1 + (-8)), s19.2)) else fg (w.1 (gR s19.2 407 x 0) = 10) inferInstance (fg (¬ ((gI s19.2 408 x 0) < 0 ∨ w.2.1 (gR s19.2 407 x 0) ≤ Int32.toNatClampNeg (gI s19.2 408 x 0))) inferInstance (fg (fch (fch ((fushr a s19.1) &&& 255)) = (fch ((fushr a s19.1) &&& 255))) inferInstance (some (.inl ((s19.1 + (-8)), (sI (sI s19.2 600 (gR s19.2 407 x 0) (Int32.toNatClampNeg (gI s19.2 408 x 0)) (fch ((fushr a s19.1) &&& 255))) 408 x 0 ((gI (sI s19.2 600 (gR s19.2 407 x 0) (Int32.toNatClampNeg (gI s19.2 408 x 0)) (fch ((fushr a s19.1) &&& 255))) 408 x 0) + 1))))))))))) (24, w) = some (cB w x (L + cn a 4) (apF a L f 4)) := by
  obtain ⟨a1, a2, a3, a4, a5, a6, a7, a8, a9, a10, -⟩ := C.1
  have hl := fLoop_for (σ := Int32 × FW) (ρ := FW) (f := fun s19 => (if s19.1 < 0 then some (.inr s19.2) else (if ((fushr a s19.1) &&& 255) = 0 then some (.inl ((s19.1 + (-8)), s19.2)) else (if 60 ≤ (gI s19.2 408 x 0) then some (.inl ((s19.1 + (-8)), s19.2)) else fg (w.1 (gR s19.2 407 x 0) = 10) inferInstance (fg (¬ ((gI s19.2 408 x 0) < 0 ∨ w.2.1 (gR s19.2 407 x 0) ≤ Int32.toNatClampNeg (gI s19.2 408 x 0))) inferInstance (fg (fch (fch ((fushr a s19.1) &&& 255)) = (fch ((fushr a s19.1) &&& 255))) inferInstance (some (.inl ((s19.1 + (-8)), (sI (sI s19.2 600 (gR s19.2 407 x 0) (Int32.toNatClampNeg (gI s19.2 408 x 0)) (fch ((fushr a s19.1) &&& 255))) 408 x 0 ((gI (sI s19.2 600 (gR s19.2 407 x 0) (Int32.toNatClampNeg (gI s19.2 408 x 0)) (fch ((fushr a s19.1) &&& 255))) 408 x 0) + 1))))))))))) (fun k => (shN k, cB w x (L + cn a k) (apF a L f k))) 4 (r := cB w x (L + cn a 4) (apF a L f 4)) (fun k hk => ?_) ?_
  · have e0 : ((24 : Int32), w) = (shN 0, cB w x (L + cn a 0) (apF a L f 0)) := by
      rw [shN_0]
      exact congrArg (Prod.mk 24) (cB_me h hf).symm
    rw [e0]
    exact hl
  · obtain ⟨s1, s2⟩ := shN_t k hk
    have e1 : gI (cB w x (L + cn a k) (apF a L f k)) 408 x 0 = nI (L + cn a k) := by rw [gI_cB, if_pos ⟨rfl, rfl, rfl⟩]
    dsimp only
    rw [show (fushr a (shN k)) &&& 255 = apC a k from rfl]
    rw [if_neg s1, s2]
    by_cases c : apC a k = 0
    · have e2 : apF a L f (k + 1) = apF a L f k := if_pos c
      rw [if_pos c, cn_s0 c, e2]
    · obtain ⟨d, d1, d2, d3⟩ := ap_good (hb k hk) c
      have hfch : fch (apC a k) = apC a k := by rw [d3]; exact fch_n d (by omega)
      have e2 : apF a L f (k + 1) = up (apF a L f k) (L + cn a k) (apC a k) := if_neg c
      have hm := cn_mono a (show k + 1 ≤ 4 by omega)
      rw [cn_s1 c] at hm
      have h6 : ¬ (60 : Int32) ≤ nI (L + cn a k) := nI_ge (b := 60) (by omega) (by decide)
      have e3 : gI (sI (cB w x (L + cn a k) (apF a L f k)) 600 (x + 142) (L + cn a k) (apC a k)) 408 x 0 = nI (L + cn a k) := by rw [gI_sI, if_neg (by omega), e1]
      rw [if_neg c, e1, if_neg h6, show gR (cB w x (L + cn a k) (apF a L f k)) 407 x 0 = x + 142 from a8, fg_t a9, fg_t (by rw [a10]; exact nI_in (by omega) (by decide)), hfch, fg_t hfch, nI_clamp (by omega), e3, nI_1, cB_s, cn_s1 c, e2]
      rfl
  · show (if shN 4 < 0 then _ else _) = _
    rw [if_pos shN_4]
end AP
/-- the reference's buffer is f, of L characters -/
def mB5 (w : FW) (M : Nat) (fl : Nat → Int32) (ar : Nat → Nat → Int32) (L : Nat) (f : Nat → Int32) : FW := mW w M (up fl 511 (nI L)) (up ar 5 (cp L f (ar 5)))
theorem cp_me {L : Nat} {f : Nat → Int32} : cp L f f = f := by
  funext i
  unfold cp
  split <;> rfl
section MAP
variable {w : FW} {M : Nat} {fl : Nat → Int32} {ar : Nat → Nat → Int32}
theorem m_apCount (a : Int32) (v : FW) : fLoop (σ := Int32 × Int32 × Int32) (ρ := Int32 × Int32) (fun s1 => (if s1.2.2 < 0 then some (.inr (s1.1, s1.2.1)) else ((if s1.2.1 = 0 then some 0 else (if ((fushr a s1.2.2) &&& 255) = 0 then some 1 else (F_X5_in ((fushr a s1.2.2) &&& 255) 32 126 v).bind (fun r18 => (if r18 = 0 then some 0 else some 1)))) : Option (Int32)).bind (fun x11 => (if ((fushr a s1.2.2) &&& 255) = 0 then some (.inl ((s1.1 + 0), x11, (s1.2.2 + (-8)))) else some (.inl ((s1.1 + 1), x11, (s1.2.2 + (-8)))))))) (0, 1, 24) = some (nI (cn a 4), okk a 4) := by
  have h := fLoop_for (σ := Int32 × Int32 × Int32) (ρ := Int32 × Int32) (f := fun s1 => (if s1.2.2 < 0 then some (.inr (s1.1, s1.2.1)) else ((if s1.2.1 = 0 then some 0 else (if ((fushr a s1.2.2) &&& 255) = 0 then some 1 else (F_X5_in ((fushr a s1.2.2) &&& 255) 32 126 v).bind (fun r18 => (if r18 = 0 then some 0 else some 1)))) : Option (Int32)).bind (fun x11 => (if ((fushr a s1.2.2) &&& 255) = 0 then some (.inl ((s1.1 + 0), x11, (s1.2.2 + (-8)))) else some (.inl ((s1.1 + 1), x11, (s1.2.2 + (-8)))))))) (fun k => (nI (cn a k), okk a k, shN k)) 4 (r := (nI (cn a 4), okk a 4)) (fun k hk => ?_) ?_
  · have e0 : ((0 : Int32), (1 : Int32), (24 : Int32)) = (nI (cn a 0), okk a 0, shN 0) := by rw [shN_0]; rfl
    rw [e0]
    exact h
  · obtain ⟨s1, s2⟩ := shN_t k hk
    have eo : ((if okk a k = 0 then some 0 else (if apC a k = 0 then some 1 else (F_X5_in (apC a k) 32 126 v).bind (fun r18 => (if r18 = 0 then some 0 else some 1)))) : Option (Int32)) = some (okk a (k + 1)) := by
      show _ = some (if okk a k = 0 then 0 else if apC a k = 0 then 1 else if inn (apC a k) 32 126 = 0 then 0 else 1)
      rw [m_in, Option.bind_some]
      by_cases c1 : okk a k = 0
      · rw [if_pos c1, if_pos c1]
      · rw [if_neg c1, if_neg c1]
        by_cases c2 : apC a k = 0
        · rw [if_pos c2, if_pos c2]
        · rw [if_neg c2, if_neg c2]
          by_cases c3 : inn (apC a k) 32 126 = 0
          · rw [if_pos c3, if_pos c3]
          · rw [if_neg c3, if_neg c3]
    dsimp only
    rw [show (fushr a (shN k)) &&& 255 = apC a k from rfl]
    rw [if_neg s1, s2, eo, Option.bind_some]
    by_cases c : apC a k = 0
    · rw [if_pos c, add0, cn_s0 c]
    · rw [if_neg c, nI_1, cn_s1 c]
  · show (if shN 4 < 0 then _ else _) = _
    rw [if_pos shN_4]
theorem m_apWrite (hB : MB w M) {L : Nat} (h : fl 511 = nI L) (a : Int32) (h60 : L + cn a 4 ≤ 60) : fLoop (σ := Int32 × FW) (ρ := FW) (fun s28 => (if s28.1 < 0 then some (.inr s28.2) else (if ((fushr a s28.1) &&& 255) = 0 then some (.inl ((s28.1 + (-8)), s28.2)) else fg (w.1 (gR s28.2 507 M 0) = 11) inferInstance (fg (¬ ((gI s28.2 511 M 0) < 0 ∨ w.2.1 (gR s28.2 507 M 0) ≤ Int32.toNatClampNeg (gI s28.2 511 M 0))) inferInstance (some (.inl ((s28.1 + (-8)), (sI (sI s28.2 601 (gR s28.2 507 M 0) (Int32.toNatClampNeg (gI s28.2 511 M 0)) ((fushr a s28.1) &&& 255)) 511 M 0 ((gI (sI s28.2 601 (gR s28.2 507 M 0) (Int32.toNatClampNeg (gI s28.2 511 M 0)) ((fushr a s28.1) &&& 255)) 511 M 0) + 1))))))))) (24, mW w M fl ar) = some (mB5 w M fl ar (L + cn a 4) (apF a L (ar 5) 4)) := by
  obtain ⟨zk0, zk1, zk2, zk3, zk4, zk5, zk6, zk7, zk8, zl1, zl2, zl3, zl4, zl5, zl6, zl7, zl8, zr1, zr2, zr3, zr4, zr5, zr6, zr7, zr8⟩ := id hB
  have hl := fLoop_for (σ := Int32 × FW) (ρ := FW) (f := fun s28 => (if s28.1 < 0 then some (.inr s28.2) else (if ((fushr a s28.1) &&& 255) = 0 then some (.inl ((s28.1 + (-8)), s28.2)) else fg (w.1 (gR s28.2 507 M 0) = 11) inferInstance (fg (¬ ((gI s28.2 511 M 0) < 0 ∨ w.2.1 (gR s28.2 507 M 0) ≤ Int32.toNatClampNeg (gI s28.2 511 M 0))) inferInstance (some (.inl ((s28.1 + (-8)), (sI (sI s28.2 601 (gR s28.2 507 M 0) (Int32.toNatClampNeg (gI s28.2 511 M 0)) ((fushr a s28.1) &&& 255)) 511 M 0 ((gI (sI s28.2 601 (gR s28.2 507 M 0) (Int32.toNatClampNeg (gI s28.2 511 M 0)) ((fushr a s28.1) &&& 255)) 511 M 0) + 1))))))))) (fun k => (shN k, mB5 w M fl ar (L + cn a k) (apF a L (ar 5) k))) 4 (r := mB5 w M fl ar (L + cn a 4) (apF a L (ar 5) 4)) (fun k hk => ?_) ?_
  · have e0 : ((24 : Int32), mW w M fl ar) = (shN 0, mB5 w M fl ar (L + cn a 0) (apF a L (ar 5) 0)) := by
      rw [shN_0]
      refine congrArg (Prod.mk 24) ?_
      unfold mB5
      show mW w M fl ar = mW w M (up fl 511 (nI L)) (up ar 5 (cp L (ar 5) (ar 5)))
      rw [← h, up_self, cp_me, up_self]
    rw [e0]
    exact hl
  · obtain ⟨s1, s2⟩ := shN_t k hk
    have e1 : gI (mB5 w M fl ar (L + cn a k) (apF a L (ar 5) k)) 511 M 0 = nI (L + cn a k) := by unfold mB5; rw [mW_f, up_s]
    dsimp only
    rw [show (fushr a (shN k)) &&& 255 = apC a k from rfl]
    rw [if_neg s1, s2]
    by_cases c : apC a k = 0
    · have e2 : apF a L (ar 5) (k + 1) = apF a L (ar 5) k := if_pos c
      rw [if_pos c, cn_s0 c, e2]
    · have e2 : apF a L (ar 5) (k + 1) = up (apF a L (ar 5) k) (L + cn a k) (apC a k) := if_neg c
      have hm := cn_mono a (show k + 1 ≤ 4 by omega)
      rw [cn_s1 c] at hm
      rw [if_neg c, show gR (mB5 w M fl ar (L + cn a k) (apF a L (ar 5) k)) 507 M 0 = M + 5 from zr5, fg_t zk5, e1, fg_t (by rw [zl5]; exact nI_in (by omega) (by decide)), nI_clamp (by omega), cn_s1 c, e2]
      unfold mB5
      rw [mW_s5, mW_f, up_s, mW_sf, up_s, up_up, up_up, nI_1, cp_u]
      rfl
  · show (if shN 4 < 0 then _ else _) = _
    rw [if_pos shN_4]
end MAP
theorem k_append {b x : Nat} {w : FW} (hJ : JJ b w x) (a : Int32) : KJ (b + 60) x [1, 0] (F_X4_append x a) (F_X5_append (x + 512) a) w := by
  obtain ⟨hB, n, J⟩ := hJ
  obtain ⟨C, h5, hN, hD⟩ := id J
  obtain ⟨n1, n2, n3, n4, ⟨L, L1, L2, L3, L4⟩, n6⟩ := id hN
  have h4 := cn_le a 4
  have eX : F_X4_append x a w = (match (List.range 4).find? (fun k => decide (¬ apC a k = 0 ∧ inn (apC a k) 32 126 = 0)) with
    | some _ => some (.inr 1, w)
    | none => if nI L + nI (cn a 4) ≤ 60 then (fLoop (σ := Int32 × FW) (ρ := FW) (fun s19 => (if s19.1 < 0 then some (.inr s19.2) else (if ((fushr a s19.1) &&& 255) = 0 then some (.inl ((s19.1 + (-8)), s19.2)) else (if 60 ≤ (gI s19.2 408 x 0) then some (.inl ((s19.1 + (-8)), s19.2)) else fg (w.1 (gR s19.2 407 x 0) = 10) inferInstance (fg (¬ ((gI s19.2 408 x 0) < 0 ∨ w.2.1 (gR s19.2 407 x 0) ≤ Int32.toNatClampNeg (gI s19.2 408 x 0))) inferInstance (fg (fch (fch ((fushr a s19.1) &&& 255)) = (fch ((fushr a s19.1) &&& 255))) inferInstance (some (.inl ((s19.1 + (-8)), (sI (sI s19.2 600 (gR s19.2 407 x 0) (Int32.toNatClampNeg (gI s19.2 408 x 0)) (fch ((fushr a s19.1) &&& 255))) 408 x 0 ((gI (sI s19.2 600 (gR s19.2 407 x 0) (Int32.toNatClampNeg (gI s19.2 408 x 0)) (fch ((fushr a s19.1) &&& 255))) 408 x 0) + 1))))))))))) (24, w)).bind (fun x25 => some ((.inl (gI x25 408 x 0)), x25)) else some (.inr 0, w)) := by
    unfold F_X4_append
    rw [c_apCount a, Option.bind_some]
    cases hf : (List.range 4).find? (fun k => decide (¬ apC a k = 0 ∧ inn (apC a k) 32 126 = 0)) with
    | some k => rfl
    | none =>
      show fg (w.1 x = 5) _ (if gI w 408 x 0 + nI (cn a 4) ≤ 60 then _ else _) = _
      rw [fg_t C.1.1, L2]
  have eM : ∀ v : Int32, (if okk a 4 = 0 then some 1 else fg (w.1 (x + 512) = 6) inferInstance ((if (nI L + nI (cn a 4)) ≤ 60 then some 0 else some 2)) : Option Int32) = some v → F_X5_append (x + 512) a (mW w (x + 512) (flW w (x + 512)) (arW w (x + 512))) = (if v ≤ 0 then (fLoop (σ := Int32 × FW) (ρ := FW) (fun s28 => (if s28.1 < 0 then some (.inr s28.2) else (if ((fushr a s28.1) &&& 255) = 0 then some (.inl ((s28.1 + (-8)), s28.2)) else fg (w.1 (gR s28.2 507 (x + 512) 0) = 11) inferInstance (fg (¬ ((gI s28.2 511 (x + 512) 0) < 0 ∨ w.2.1 (gR s28.2 507 (x + 512) 0) ≤ Int32.toNatClampNeg (gI s28.2 511 (x + 512) 0))) inferInstance (some (.inl ((s28.1 + (-8)), (sI (sI s28.2 601 (gR s28.2 507 (x + 512) 0) (Int32.toNatClampNeg (gI s28.2 511 (x + 512) 0)) ((fushr a s28.1) &&& 255)) 511 (x + 512) 0 ((gI (sI s28.2 601 (gR s28.2 507 (x + 512) 0) (Int32.toNatClampNeg (gI s28.2 511 (x + 512) 0)) ((fushr a s28.1) &&& 255)) 511 (x + 512) 0) + 1))))))))) (24, mW w (x + 512) (up (flW w (x + 512)) 500 v) (arW w (x + 512)))).bind (fun x34 => some ((gI x34 511 (x + 512) 0), x34)) else some (0, mW w (x + 512) (up (flW w (x + 512)) 500 v) (arW w (x + 512)))) := by
    intro v hv
    unfold F_X5_append
    rw [m_apCount a, Option.bind_some]
    show (if okk a 4 = 0 then some 1 else fg (w.1 (x + 512) = 6) _ (if (gI (mW w (x + 512) (flW w (x + 512)) (arW w (x + 512))) 511 (x + 512) 0 + nI (cn a 4)) ≤ 60 then some 0 else some 2)).bind _ = _
    rw [mW_f, L3]
    refine ob hv ?_
    refine (fg_t (show (mW w (x + 512) (flW w (x + 512)) (arW w (x + 512))).1 (x + 512) = 6 from hB.1)).trans ?_
    rw [mW_sf, mW_f, up_s]
    rfl
  rcases okk_c a 4 with ⟨o1, o2⟩ | ⟨o1, j, o2, o3⟩
  · have hf : (List.range 4).find? (fun k => decide (¬ apC a k = 0 ∧ inn (apC a k) 32 126 = 0)) = none := List.find?_eq_none.mpr (fun k hk => by
      have := o2 k (List.mem_range.mp hk)
      simp only [decide_eq_true_eq]
      exact this)
    rw [hf] at eX
    by_cases c : L + cn a 4 ≤ 60
    · have c' : nI L + nI (cn a 4) ≤ 60 := by
        rw [nI_add]
        exact nI_le (b := 60) c (by decide)
      have hv0 : (if okk a 4 = 0 then some 1 else fg (w.1 (x + 512) = 6) inferInstance ((if (nI L + nI (cn a 4)) ≤ 60 then some 0 else some 2)) : Option Int32) = some 0 := by rw [if_neg (by rw [o1]; decide), fg_t hB.1, if_pos c']
      have e := eM 0 hv0
      rw [if_pos (show (0 : Int32) ≤ 0 by decide), m_apWrite (fl := up (flW w (x + 512)) 500 0) (ar := arW w (x + 512)) hB ((up_n (by omega)).trans L3) a c, Option.bind_some] at e
      rw [if_pos c', c_apWrite C L2 (fun i hi => (L4 i hi).1) a o2 c, Option.bind_some, gI_cB, if_pos ⟨rfl, rfl, rfl⟩] at eX
      have e9 : gI (mB5 w (x + 512) (up (flW w (x + 512)) 500 0) (arW w (x + 512)) (L + cn a 4) (apF a L (arW w (x + 512) 5) 4)) 511 (x + 512) 0 = nI (L + cn a 4) := by
        unfold mB5
        rw [mW_f, up_s]
      rw [e9] at e
      -- the class's new world, the reference's world in it
      have m1 : MB (cB w x (L + cn a 4) (apF a L (arW w (x + 512) 5) 4)) (x + 512) := hB
      have q1 : flW (cB w x (L + cn a 4) (apF a L (arW w (x + 512) 5) 4)) (x + 512) = flW w (x + 512) := by
        funext c
        show gI (cB w x (L + cn a 4) (apF a L (arW w (x + 512) 5) 4)) c (x + 512) 0 = gI w c (x + 512) 0
        rw [gI_cB, if_neg (by omega), if_neg (by omega)]
      have q2 : arW (cB w x (L + cn a 4) (apF a L (arW w (x + 512) 5) 4)) (x + 512) = arW w (x + 512) := by
        funext k i
        show gI (cB w x (L + cn a 4) (apF a L (arW w (x + 512) 5) 4)) 601 (x + 512 + k) i = gI w 601 (x + 512 + k) i
        rw [gI_cB, if_neg (by omega), if_neg (by omega)]
      have ew : cB w x (L + cn a 4) (apF a L (arW w (x + 512) 5) 4) = mW (cB w x (L + cn a 4) (apF a L (arW w (x + 512) 5) 4)) (x + 512) (flW w (x + 512)) (arW w (x + 512)) := by
        rw [← q1, ← q2]
        exact (mW_me _ _).symm
      -- the reference's answer in the class's new world
      have eR : F_X5_append (x + 512) a (mW (cB w x (L + cn a 4) (apF a L (arW w (x + 512) 5) 4)) (x + 512) (flW w (x + 512)) (arW w (x + 512))) = some (nI (L + cn a 4), mB5 (cB w x (L + cn a 4) (apF a L (arW w (x + 512) 5) 4)) (x + 512) (up (flW w (x + 512)) 500 0) (arW w (x + 512)) (L + cn a 4) (apF a L (arW w (x + 512) 5) 4)) := by
        unfold F_X5_append
        rw [m_apCount a, Option.bind_some]
        show (if okk a 4 = 0 then some 1 else fg (w.1 (x + 512) = 6) _ (if (gI (mW (cB w x (L + cn a 4) (apF a L (arW w (x + 512) 5) 4)) (x + 512) (flW w (x + 512)) (arW w (x + 512))) 511 (x + 512) 0 + nI (cn a 4)) ≤ 60 then some 0 else some 2)).bind _ = _
        rw [mW_f, L3]
        refine ob hv0 ?_
        refine (fg_t (show (mW (cB w x (L + cn a 4) (apF a L (arW w (x + 512) 5) 4)) (x + 512) (flW w (x + 512)) (arW w (x + 512))).1 (x + 512) = 6 from hB.1)).trans ?_
        rw [mW_sf, mW_f, up_s, if_pos (by decide)]
        refine ob (m_apWrite (fl := up (flW w (x + 512)) 500 0) (ar := arW w (x + 512)) m1 ((up_n (by omega)).trans L3) a c) ?_
        have e9 : gI (mB5 (cB w x (L + cn a 4) (apF a L (arW w (x + 512) 5) 4)) (x + 512) (up (flW w (x + 512)) 500 0) (arW w (x + 512)) (L + cn a 4) (apF a L (arW w (x + 512) 5) 4)) 511 (x + 512) 0 = nI (L + cn a 4) := by
          unfold mB5
          rw [mW_f, up_s]
        rw [e9]
      rw [← ew] at eR
      refine ⟨_, ⟨.inl (nI (L + cn a 4)), _, _, 0, eX, eR, ?_, fun e he => (by cases he), rfl, fun v hv => by cases hv; rfl⟩, JJ.mk m1 (n := n) ⟨?_, ?_, ?_, ?_⟩⟩
      · unfold mB5
        rw [m_thrown m1, up_n (by omega), up_s]
      · rw [up_n (by omega), up_n (by omega), up_n (by omega), up_n (by omega), up_n (by omega)]
        exact C.bfw _ _
      · rw [up_n (by omega), up_n (by omega)]
        exact h5
      · have g : ∀ c, ¬ c = 408 → ¬ c = 600 → gI (cB w x (L + cn a 4) (apF a L (arW w (x + 512) 5) 4)) c x 0 = gI w c x 0 := fun c h1 h2 => by
          rw [gI_cB, if_neg (by omega), if_neg (by omega)]
        have fx : ∀ c, ¬ c = 500 → ¬ c = 511 → up (up (flW w (x + 512)) 500 0) 511 (nI (L + cn a 4)) c = flW w (x + 512) c := fun c h1 h2 => by
          rw [up_n (by omega), up_n (by omega)]
        obtain ⟨K, b1, b2, b3, b4⟩ := n6
        have hr := apF_c (a := a) (L := L) (f := arW w (x + 512) 5) (fun i hi => (L4 i hi).2) (k := 4) o2
        refine ⟨by rw [g 411 (by omega) (by omega), fx 515 (by omega) (by omega)]; exact n1, by rw [g 412 (by omega) (by omega), fx 516 (by omega) (by omega)]; exact n2, by rw [g 413 (by omega) (by omega), fx 513 (by omega) (by omega)]; exact n3, by rw [g 414 (by omega) (by omega), fx 514 (by omega) (by omega)]; exact n4, ⟨L + cn a 4, c, ?_, up_s _ _ _, fun i hi => ?_⟩, ⟨K, b1, by rw [g 410 (by omega) (by omega)]; exact b2, by rw [fx 512 (by omega) (by omega)]; exact b3, fun i hi => ?_⟩⟩
        · rw [gI_cB, if_pos ⟨rfl, rfl, rfl⟩]
        · rw [gI_cB, if_neg (by omega), if_pos ⟨rfl, rfl, hi⟩, up_s, cp_l hi]
          exact ⟨rfl, hr i hi⟩
        · rw [gI_cB, if_neg (by omega), if_neg (by omega), up_n (by omega)]
          exact b4 i hi
      · refine ⟨?_, fun i hi => ?_, fun z => ?_⟩
        · rw [up_n (by omega)]
          exact hD.1.up (by omega)
        · rw [up_n (by omega)]
          exact (hD.2.1 i hi).up (by omega)
        · rw [up_n (by omega), up_n (by omega)] at z
          rw [up_n (by omega)]
          exact (hD.2.2 z).up (by omega)
    · have c' : ¬ nI L + nI (cn a 4) ≤ 60 := by
        rw [nI_add]
        exact nI_ge (b := L + cn a 4) (show 60 < L + cn a 4 by omega) (by omega)
      have e := eM 2 (by rw [if_neg (by rw [o1]; decide), fg_t hB.1, if_neg c'])
      rw [mW_me, if_neg (by decide)] at e
      rw [if_neg c'] at eX
      refine ⟨_, ⟨.inr 0, _, _, 2, eX, e, ?_, fun e he => by cases he; decide, rfl, fun v hv => by cases hv⟩, JJ.q hB J (fun c h1 h2 => up_n h1)⟩
      rw [m_thrown hB, up_s]
  · have hf : ∃ k, (List.range 4).find? (fun k => decide (¬ apC a k = 0 ∧ inn (apC a k) 32 126 = 0)) = some k := by
      cases hf : (List.range 4).find? (fun k => decide (¬ apC a k = 0 ∧ inn (apC a k) 32 126 = 0)) with
      | some k => exact ⟨k, rfl⟩
      | none =>
        have := List.find?_eq_none.mp hf j (List.mem_range.mpr o2)
        simp only [decide_eq_true_eq] at this
        exact absurd o3 this
    obtain ⟨k, hf⟩ := hf
    rw [hf] at eX
    have e := eM 1 (if_pos o1)
    rw [mW_me, if_neg (by decide)] at e
    refine ⟨_, ⟨.inr 1, _, _, 1, eX, e, ?_, fun e he => by cases he; decide, rfl, fun v hv => by cases hv⟩, JJ.q hB J (fun c h1 h2 => up_n h1)⟩
    rw [m_thrown hB, up_s]
