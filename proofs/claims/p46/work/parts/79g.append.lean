/-! append -/
def shN (k : Nat) : Int32 := 24 - 8 * nI k
def apC (a : Int32) (k : Nat) : Int32 := (fushr a (shN k)) &&& 255
def apBad (a : Int32) (k : Nat) : Prop := ¬ apC a k = 0 ∧ inn (apC a k) 32 126 = 0
def cn (a : Int32) : Nat → Nat
  | 0 => 0
  | k + 1 => if apC a k = 0 then cn a k else cn a k + 1
def okk (a : Int32) : Nat → Int32
  | 0 => 1
  | k + 1 => if okk a k = 0 then 0 else if apC a k = 0 then 1 else if inn (apC a k) 32 126 = 0 then 0 else 1
def apF (a : Int32) (L : Nat) (f : Nat → Int32) : Nat → Nat → Int32
  | 0 => f
  | k + 1 => if apC a k = 0 then apF a L f k else up (apF a L f k) (L + cn a k) (apC a k)
theorem shN_t : ∀ k, k < 4 → ¬ shN k < 0 ∧ shN k + (-8) = shN (k + 1) := by decide +kernel
theorem shN_4 : shN 4 < 0 := by decide +kernel
theorem shN_0 : shN 0 = 24 := by decide +kernel
theorem cn_le (a : Int32) (k : Nat) : cn a k ≤ k := by
  induction k with
  | zero => exact Nat.le_refl _
  | succ k ih =>
    show (if apC a k = 0 then cn a k else cn a k + 1) ≤ k + 1
    split <;> omega
theorem cn_mono (a : Int32) {j k : Nat} (h : j ≤ k) : cn a j ≤ cn a k := by
  induction k with
  | zero =>
    have : j = 0 := by omega
    rw [this]
    exact Nat.le_refl _
  | succ k ih =>
    by_cases z : j = k + 1
    · rw [z]
      exact Nat.le_refl _
    · have := ih (by omega)
      show cn a j ≤ if apC a k = 0 then cn a k else cn a k + 1
      split <;> omega
theorem cn_s0 {a : Int32} {k : Nat} (h : apC a k = 0) : cn a (k + 1) = cn a k := if_pos h
theorem cn_s1 {a : Int32} {k : Nat} (h : ¬ apC a k = 0) : cn a (k + 1) = cn a k + 1 := if_neg h
theorem okk_c (a : Int32) (k : Nat) : (okk a k = 1 ∧ ∀ j, j < k → ¬ apBad a j) ∨ (okk a k = 0 ∧ ∃ j, j < k ∧ apBad a j) := by
  induction k with
  | zero => exact Or.inl ⟨rfl, fun j hj => by omega⟩
  | succ k ih =>
    have e : okk a (k + 1) = if okk a k = 0 then 0 else if apC a k = 0 then 1 else if inn (apC a k) 32 126 = 0 then 0 else 1 := rfl
    rcases ih with ⟨h1, h2⟩ | ⟨h1, j, h2, h3⟩
    · rw [e, h1, if_neg (by decide)]
      by_cases c : apC a k = 0
      · rw [if_pos c]
        refine Or.inl ⟨rfl, fun j hj => ?_⟩
        by_cases z : j = k
        · rw [z]
          exact fun y => y.1 c
        · exact h2 j (by omega)
      · rw [if_neg c]
        by_cases d : inn (apC a k) 32 126 = 0
        · rw [if_pos d]
          exact Or.inr ⟨rfl, k, by omega, c, d⟩
        · rw [if_neg d]
          refine Or.inl ⟨rfl, fun j hj => ?_⟩
          by_cases z : j = k
          · rw [z]
            exact fun y => d y.2
          · exact h2 j (by omega)
    · rw [e, h1, if_pos rfl]
      exact Or.inr ⟨rfl, j, by omega, h3⟩
theorem ap_good {a : Int32} {k : Nat} (h : ¬ apBad a k) (h0 : ¬ apC a k = 0) : ∃ c, 32 ≤ c ∧ c ≤ 126 ∧ apC a k = nI c := inn_1 (a := 32) (b := 126) (by omega) (by omega) (fun z => h ⟨h0, z⟩)
theorem apF_c {a : Int32} {L : Nat} {f : Nat → Int32} (hf : ∀ i, i < L → ∃ c, 32 ≤ c ∧ c ≤ 126 ∧ f i = nI c) {k : Nat} (hb : ∀ j, j < k → ¬ apBad a j) : ∀ i, i < L + cn a k → ∃ c, 32 ≤ c ∧ c ≤ 126 ∧ apF a L f k i = nI c := by
  induction k with
  | zero => exact hf
  | succ k ih =>
    intro i hi
    show ∃ c, 32 ≤ c ∧ c ≤ 126 ∧ (if apC a k = 0 then apF a L f k else up (apF a L f k) (L + cn a k) (apC a k)) i = nI c
    by_cases c : apC a k = 0
    · rw [cn_s0 c] at hi
      rw [if_pos c]
      exact ih (fun j hj => hb j (by omega)) i hi
    · rw [cn_s1 c] at hi
      rw [if_neg c]
      by_cases z : i = L + cn a k
      · rw [z, up_s]
        exact ap_good (hb k (by omega)) c
      · rw [up_n z]
        exact ih (fun j hj => hb j (by omega)) i (by omega)
/-- the class's buffer is f, of L characters -/
def cB (w : FW) (x L : Nat) (f : Nat → Int32) : FW := sI (rW w 600 (x + 142) L f) 408 x 0 (nI L)
theorem gI_cB (w : FW) (x L : Nat) (f : Nat → Int32) (c a i : Nat) : gI (cB w x L f) c a i = if c = 408 ∧ a = x ∧ i = 0 then nI L else if c = 600 ∧ a = x + 142 ∧ i < L then f i else gI w c a i := rfl
theorem cB_s (w : FW) (x L : Nat) (f : Nat → Int32) (v : Int32) : sI (sI (cB w x L f) 600 (x + 142) L v) 408 x 0 (nI (L + 1)) = cB w x (L + 1) (up f L v) := by
  refine FW_ext rfl rfl (fun c a i => ?_) (fun _ _ _ => rfl)
  rw [gI_sI, gI_sI, gI_cB, gI_cB]
  by_cases h1 : c = 408 ∧ a = x ∧ i = 0
  · simp only [if_pos h1]
  · simp only [if_neg h1]
    by_cases h2 : c = 600 ∧ a = x + 142 ∧ i = L
    · simp only [if_pos h2, if_pos (show c = 600 ∧ a = x + 142 ∧ i < L + 1 from ⟨h2.1, h2.2.1, by omega⟩)]
      rw [h2.2.2, up_s]
    · simp only [if_neg h2]
      by_cases h3 : c = 600 ∧ a = x + 142 ∧ i < L
      · simp only [if_pos h3, if_pos (show c = 600 ∧ a = x + 142 ∧ i < L + 1 from ⟨h3.1, h3.2.1, by omega⟩)]
        rw [up_n (by omega)]
      · simp only [if_neg h3, if_neg (show ¬ (c = 600 ∧ a = x + 142 ∧ i < L + 1) from fun z => by omega)]
theorem cB_me {w : FW} {x L : Nat} {f : Nat → Int32} (h : gI w 408 x 0 = nI L) (hf : ∀ i, i < L → gI w 600 (x + 142) i = f i) : cB w x L f = w := by
  refine FW_ext rfl rfl (fun c a i => ?_) (fun _ _ _ => rfl)
  rw [gI_cB]
  by_cases h1 : c = 408 ∧ a = x ∧ i = 0
  · rw [if_pos h1, h1.1, h1.2.1, h1.2.2, h]
  · rw [if_neg h1]
    by_cases h2 : c = 600 ∧ a = x + 142 ∧ i < L
    · rw [if_pos h2, h2.1, h2.2.1, hf i h2.2.2]
    · rw [if_neg h2]
theorem CR.bfw {w : FW} {x n : Nat} {A H S : Nat → Int32} {sv : Int32} (C : CR w x A n H sv S) (L : Nat) (f : Nat → Int32) : CR (cB w x L f) x A n H sv S :=
  (C.chg (w' := cB w x L f) rfl rfl (fun _ _ _ => rfl) (fun c a i h => by rw [gI_cB, if_neg (by omega), if_neg (by omega)]) (fun i => by rw [gI_cB, if_neg (by omega), if_neg (by omega)]) (by rw [gI_cB, if_neg (by omega), if_neg (by omega)]) (by rw [gI_cB, if_neg (by omega), if_neg (by omega)])).1
section AP
variable {w : FW} {x : Nat}
theorem c_apCount (a : Int32) : fLoop (σ := Int32 × Int32) (ρ := (Int32) ⊕ ((Int32 ⊕ Nat) × FW)) (fun s1 => (if s1.2 < 0 then some (.inr (.inl s1.1)) else (if ((fushr a s1.2) &&& 255) = 0 then (if ((fushr a s1.2) &&& 255) = 0 then some (.inl ((s1.1 + 0), (s1.2 + (-8)))) else some (.inl ((s1.1 + 1), (s1.2 + (-8))))) else (if ((fushr a s1.2) &&& 255) < 32 then some (.inr (.inr (.inr 1, w))) else (if ((fushr a s1.2) &&& 255) ≤ 126 then (if ((fushr a s1.2) &&& 255) = 0 then some (.inl ((s1.1 + 0), (s1.2 + (-8)))) else some (.inl ((s1.1 + 1), (s1.2 + (-8))))) else some (.inr (.inr (.inr 1, w)))))))) (0, 24) = some (match (List.range 4).find? (fun k => decide (¬ apC a k = 0 ∧ inn (apC a k) 32 126 = 0)) with
    | some _ => .inr (.inr 1, w)
    | none => .inl (nI (cn a 4))) := by
  have h := fLoop_find (σ := Int32 × Int32) (ρ := (Int32) ⊕ ((Int32 ⊕ Nat) × FW)) (f := fun s1 => (if s1.2 < 0 then some (.inr (.inl s1.1)) else (if ((fushr a s1.2) &&& 255) = 0 then (if ((fushr a s1.2) &&& 255) = 0 then some (.inl ((s1.1 + 0), (s1.2 + (-8)))) else some (.inl ((s1.1 + 1), (s1.2 + (-8))))) else (if ((fushr a s1.2) &&& 255) < 32 then some (.inr (.inr (.inr 1, w))) else (if ((fushr a s1.2) &&& 255) ≤ 126 then (if ((fushr a s1.2) &&& 255) = 0 then some (.inl ((s1.1 + 0), (s1.2 + (-8)))) else some (.inl ((s1.1 + 1), (s1.2 + (-8))))) else some (.inr (.inr (.inr 1, w)))))))) (fun k => (nI (cn a k), shN k)) 4 (fun k => ¬ apC a k = 0 ∧ inn (apC a k) 32 126 = 0) (r := .inl (nI (cn a 4))) (q := fun _ => .inr (.inr 1, w)) (fun k hk hP => ?_) (fun k hk hP => ?_) ?_
  · have e0 : ((0 : Int32), (24 : Int32)) = (nI (cn a 0), shN 0) := by rw [shN_0]; rfl
    rw [e0]
    exact h
  · obtain ⟨s1, s2⟩ := shN_t k hk
    dsimp only
    rw [show (fushr a (shN k)) &&& 255 = apC a k from rfl]
    rw [if_neg s1, s2]
    by_cases c : apC a k = 0
    · rw [if_pos c, if_pos c, add0, cn_s0 c]
    · have g : ¬ inn (apC a k) 32 126 = 0 := fun z => hP ⟨c, z⟩
      have g1 : ¬ apC a k < 32 := fun z => g (if_pos z)
      have g2 : ¬ 126 < apC a k := fun z => g ((if_neg g1).trans (if_pos z))
      rw [if_neg c, if_neg g1, if_pos (le9 g2), if_neg c, nI_1, cn_s1 c]
  · obtain ⟨s1, s2⟩ := shN_t k hk
    dsimp only
    rw [show (fushr a (shN k)) &&& 255 = apC a k from rfl]
    rw [if_neg s1, if_neg hP.1]
    by_cases g1 : apC a k < 32
    · rw [if_pos g1]
    · rw [if_neg g1]
      have h2 : inn (apC a k) 32 126 = 0 := hP.2
      unfold inn at h2
      rw [if_neg g1] at h2
      by_cases g2 : 126 < apC a k
      · rw [if_neg (nle9 g2)]
      · rw [if_neg g2] at h2
        exact absurd h2 (by decide)
  · show (if shN 4 < 0 then _ else _) = _
    rw [if_pos shN_4]
theorem c_apWrite {n : Nat} {A H S : Nat → Int32} {sv : Int32} (C : CR w x A n H sv S) {L : Nat} {f : Nat → Int32} (h : gI w 408 x 0 = nI L) (hf : ∀ i, i < L → gI w 600 (x + 142) i = f i) (a : Int32) (hb : ∀ k, k < 4 → ¬ apBad a k) (h60 : L + cn a 4 ≤ 60) : fLoop (σ := Int32 × FW) (ρ := FW) (fun s19 => (if s19.1 < 0 then some (.inr s19.2) else (if ((fushr a s19.1) &&& 255) = 0 then some (.inl ((s19.1 + (-8)), s19.2)) else (if 60 ≤ (gI s19.2 408 x 0) then some (.inl ((s19.1 + (-8)), s19.2)) else fg (w.1 (gR s19.2 407 x 0) = 10) inferInstance (fg (¬ ((gI s19.2 408 x 0) < 0 ∨ w.2.1 (gR s19.2 407 x 0) ≤ Int32.toNatClampNeg (gI s19.2 408 x 0))) inferInstance (fg (fch (fch ((fushr a s19.1) &&& 255)) = (fch ((fushr a s19.1) &&& 255))) inferInstance (some (.inl ((s19.1 + (-8)), (sI (sI s19.2 600 (gR s19.2 407 x 0) (Int32.toNatClampNeg (gI s19.2 408 x 0)) (fch ((fushr a s19.1) &&& 255))) 408 x 0 ((gI (sI s19.2 600 (gR s19.2 407 x 0) (Int32.toNatClampNeg (gI s19.2 408 x 0)) (fch ((fushr a s19.1) &&& 255))) 408 x 0) + 1))))))))))) (24, w) = some (cB w x (L + cn a 4) (apF a L f 4)) := by
  obtain ⟨a1, a2, a3, a4, a5, a6, a7, a8, a9, a10, -⟩ := C.1
  have hl := fLoop_for (σ := Int32 × FW) (ρ := FW) (f := fun s19 => (if s19.1 < 0 then some (.inr s19.2) else (if ((fushr a s19.1) &&& 255) = 0 then some (.inl ((s19.1 + (-8)), s19.2)) else (if 60 ≤ (gI s19.2 408 x 0) then some (.inl ((s19.1 + (-8)), s19.2)) else fg (w.1 (gR s19.2 407 x 0) = 10) inferInstance (fg (¬ ((gI s19.2 408 x 0) < 0 ∨ w.2.1 (gR s19.2 407 x 0) ≤ Int32.toNatClampNeg (gI s19.2 408 x 0))) inferInstance (fg (fch (fch ((fushr a s19.1) &&& 255)) = (fch ((fushr a s19.1) &&& 255))) inferInstance (some (.inl ((s19.1 + (-8)), (sI (sI s19.2 600 (gR s19.2 407 x 0) (Int32.toNatClampNeg (gI s19.2 408 x 0)) (fch ((fushr a s19.1) &&& 255))) 408 x 0 ((gI (sI s19.2 600 (gR s19.2 407 x 0) (Int32.toNatClampNeg (gI s19.2 408 x 0)) (fch ((fushr a s19.1) &&& 255))) 408 x 0) + 1))))))))))) (fun k => (shN k, cB w x (L + cn a k) (apF a L f k))) 4 (r := cB w x (L + cn a 4) (apF a L f 4)) (fun k hk => ?_) ?_
  · have e0 : ((24 : Int32), w) = (shN 0, cB w x (L + cn a 0) (apF a L f 0)) := by
      rw [shN_0]
      exact congrArg (Prod.mk 24) (cB_me h hf).symm
    rw [e0]
    exact hl
  · obtain ⟨s1, s2⟩ := shN_t k hk
    have e1 : gI (cB w x (L + cn a k) (apF a L f k)) 408 x 0 = nI (L + cn a k) := by rw [gI_cB, if_pos ⟨rfl, rfl, rfl⟩]
    dsimp only
    rw [show (fushr a (shN k)) &&& 255 = apC a k from rfl]
    rw [if_neg s1, s2]
    by_cases c : apC a k = 0
    · have e2 : apF a L f (k + 1) = apF a L f k := if_pos c
      rw [if_pos c, cn_s0 c, e2]
    · obtain ⟨d, d1, d2, d3⟩ := ap_good (hb k hk) c
      have hfch : fch (apC a k) = apC a k := by rw [d3]; exact fch_n d (by omega)
      have e2 : apF a L f (k + 1) = up (apF a L f k) (L + cn a k) (apC a k) := if_neg c
      have hm := cn_mono a (show k + 1 ≤ 4 by omega)
      rw [cn_s1 c] at hm
      have h6 : ¬ (60 : Int32) ≤ nI (L + cn a k) := nI_ge (b := 60) (by omega) (by decide)
      have e3 : gI (sI (cB w x (L + cn a k) (apF a L f k)) 600 (x + 142) (L + cn a k) (apC a k)) 408 x 0 = nI (L + cn a k) := by rw [gI_sI, if_neg (by omega), e1]
      rw [if_neg c, e1, if_neg h6, show gR (cB w x (L + cn a k) (apF a L f k)) 407 x 0 = x + 142 from a8, fg_t a9, fg_t (by rw [a10]; exact nI_in (by omega) (by decide)), hfch, fg_t hfch, nI_clamp (by omega), e3, nI_1, cB_s, cn_s1 c, e2]
      rfl
  · show (if shN 4 < 0 then _ else _) = _
    rw [if_pos shN_4]
end AP
/-- the reference's buffer is f, of L characters -/
def mB5 (w : FW) (M : Nat) (fl : Nat → Int32) (ar : Nat → Nat → Int32) (L : Nat) (f : Nat → Int32) : FW := mW w M (up fl 511 (nI L)) (up ar 5 (cp L f (ar 5)))
theorem cp_me {L : Nat} {f : Nat → Int32} : cp L f f = f := by
  funext i
  unfold cp
  split <;> rfl
section MAP
variable {w : FW} {M : Nat} {fl : Nat → Int32} {ar : Nat → Nat → Int32}
theorem m_apWrite (hB : MB w M) {L : Nat} (h : fl 511 = nI L) (a : Int32) (h60 : L + cn a 4 ≤ 60) : fLoop (σ := Int32 × FW) (ρ := FW) (fun s28 => (if s28.1 < 0 then some (.inr s28.2) else (if ((fushr a s28.1) &&& 255) = 0 then some (.inl ((s28.1 + (-8)), s28.2)) else fg (w.1 (gR s28.2 507 M 0) = 11) inferInstance (fg (¬ ((gI s28.2 511 M 0) < 0 ∨ w.2.1 (gR s28.2 507 M 0) ≤ Int32.toNatClampNeg (gI s28.2 511 M 0))) inferInstance (some (.inl ((s28.1 + (-8)), (sI (sI s28.2 601 (gR s28.2 507 M 0) (Int32.toNatClampNeg (gI s28.2 511 M 0)) ((fushr a s28.1) &&& 255)) 511 M 0 ((gI (sI s28.2 601 (gR s28.2 507 M 0) (Int32.toNatClampNeg (gI s28.2 511 M 0)) ((fushr a s28.1) &&& 255)) 511 M 0) + 1))))))))) (24, mW w M fl ar) = some (mB5 w M fl ar (L + cn a 4) (apF a L (ar 5) 4)) := by
  obtain ⟨zk0, zk1, zk2, zk3, zk4, zk5, zk6, zk7, zk8, zl1, zl2, zl3, zl4, zl5, zl6, zl7, zl8, zr1, zr2, zr3, zr4, zr5, zr6, zr7, zr8⟩ := id hB
  have hl := fLoop_for (σ := Int32 × FW) (ρ := FW) (f := fun s28 => (if s28.1 < 0 then some (.inr s28.2) else (if ((fushr a s28.1) &&& 255) = 0 then some (.inl ((s28.1 + (-8)), s28.2)) else fg (w.1 (gR s28.2 507 M 0) = 11) inferInstance (fg (¬ ((gI s28.2 511 M 0) < 0 ∨ w.2.1 (gR s28.2 507 M 0) ≤ Int32.toNatClampNeg (gI s28.2 511 M 0))) inferInstance (some (.inl ((s28.1 + (-8)), (sI (sI s28.2 601 (gR s28.2 507 M 0) (Int32.toNatClampNeg (gI s28.2 511 M 0)) ((fushr a s28.1) &&& 255)) 511 M 0 ((gI (sI s28.2 601 (gR s28.2 507 M 0) (Int32.toNatClampNeg (gI s28.2 511 M 0)) ((fushr a s28.1) &&& 255)) 511 M 0) + 1))))))))) (fun k => (shN k, mB5 w M fl ar (L + cn a k) (apF a L (ar 5) k))) 4 (r := mB5 w M fl ar (L + cn a 4) (apF a L (ar 5) 4)) (fun k hk => ?_) ?_
  · have e0 : ((24 : Int32), mW w M fl ar) = (shN 0, mB5 w M fl ar (L + cn a 0) (apF a L (ar 5) 0)) := by
      rw [shN_0]
      refine congrArg (Prod.mk 24) ?_
      unfold mB5
      show mW w M fl ar = mW w M (up fl 511 (nI L)) (up ar 5 (cp L (ar 5) (ar 5)))
      rw [← h, up_self, cp_me, up_self]
    rw [e0]
    exact hl
  · obtain ⟨s1, s2⟩ := shN_t k hk
    have e1 : gI (mB5 w M fl ar (L + cn a k) (apF a L (ar 5) k)) 511 M 0 = nI (L + cn a k) := by unfold mB5; rw [mW_f, up_s]
    dsimp only
    rw [show (fushr a (shN k)) &&& 255 = apC a k from rfl]
    rw [if_neg s1, s2]
    by_cases c : apC a k = 0
    · have e2 : apF a L (ar 5) (k + 1) = apF a L (ar 5) k := if_pos c
      rw [if_pos c, cn_s0 c, e2]
    · have e2 : apF a L (ar 5) (k + 1) = up (apF a L (ar 5) k) (L + cn a k) (apC a k) := if_neg c
      have hm := cn_mono a (show k + 1 ≤ 4 by omega)
      rw [cn_s1 c] at hm
      rw [if_neg c, show gR (mB5 w M fl ar (L + cn a k) (apF a L (ar 5) k)) 507 M 0 = M + 5 from zr5, fg_t zk5, e1, fg_t (by rw [zl5]; exact nI_in (by omega) (by decide)), nI_clamp (by omega), cn_s1 c, e2]
      unfold mB5
      rw [mW_s5, mW_f, up_s, mW_sf, up_s, up_up, up_up, nI_1, cp_u]
      rfl
  · show (if shN 4 < 0 then _ else _) = _
    rw [if_pos shN_4]
end MAP
