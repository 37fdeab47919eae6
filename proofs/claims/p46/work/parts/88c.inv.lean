/-! What holds of an office between the law's calls -/
def hoT (A : Nat → Int32) (t h : Nat) : Nat := if aH A t h 0 = -1 then 0 else nHo A t h
def hoA (A : Nat → Int32) (t : Nat) : Nat := hoT A t 0 + hoT A t 1
def oddA (A : Nat → Int32) (t : Nat) : Nat := if aH A t 0 3 = 1 then (if aH A t 1 3 = 1 then 0 else 1) else 0
def TI (A : Nat → Int32) (t : Nat) : Prop := 1 ≤ nV A t ∧ (∀ h, h < 2 → aH A t h 0 = -1 → aH A t h 3 = 0) ∧ (aH A t 1 3 = 1 → aH A t 0 3 = 1) ∧ (aT A t 10 = 0 → aH A t 0 2 = aH A t 1 2 ∧ ¬ 6 ≤ aH A t 0 1 ∧ ¬ 6 ≤ aH A t 1 1)
def IV (b : Nat) (A : Nat → Int32) : Prop := (∀ t, t < aN A → TI A t) ∧ (∃ c, c ≤ b ∧ aN A ≤ c ∧ A 2 = nI c) ∧ (∃ c d, c ≤ b ∧ A 3 = nI c ∧ A 4 = nI d ∧ d + sm (oddA A) (aN A) ≤ c) ∧ ∃ c, c ≤ 60 * b ∧ A 5 = nI c ∧ sm (hoA A) (aN A) ≤ c
section EX
variable {α β σ ρ : Type}
theorem eb {o : Option α} {a : α} {g : α → Option β} {Z : β → Prop} (h : o = some a) (k : ∃ z, g a = some z ∧ Z z) : ∃ z, o.bind g = some z ∧ Z z := by
  rw [h]
  exact k
theorem eb' {o : Option α} {g : α → Option β} {Z : β → Prop} (Y : α → Prop) (h : ∃ a, o = some a ∧ Y a) (k : ∀ a, Y a → ∃ z, g a = some z ∧ Z z) : ∃ z, o.bind g = some z ∧ Z z := by
  obtain ⟨a, h1, h2⟩ := h
  rw [h1]
  exact k a h2
theorem ep {c : Prop} {i : Decidable c} {o o' : Option β} {Z : β → Prop} (h : c) (k : ∃ z, o = some z ∧ Z z) : ∃ z, (@ite _ c i o o') = some z ∧ Z z := by
  rw [if_pos h]
  exact k
theorem en {c : Prop} {i : Decidable c} {o o' : Option β} {Z : β → Prop} (h : ¬ c) (k : ∃ z, o' = some z ∧ Z z) : ∃ z, (@ite _ c i o o') = some z ∧ Z z := by
  rw [if_neg h]
  exact k
theorem eg {c : Prop} {i : Decidable c} {o : Option β} {Z : β → Prop} (h : c) (k : ∃ z, o = some z ∧ Z z) : ∃ z, (fg c i o) = some z ∧ Z z := by
  rw [fg_t h]
  exact k
theorem fLoopB_inv {step : σ → Option (σ ⊕ ρ)} {Q : ρ → Prop} (I : Nat → σ → Prop) (n N : Nat) (hn : n < N) {s0 : σ} (h0 : I 0 s0) (h1 : ∀ k s, k < n → I k s → ∃ z, step s = some z ∧ ∃ s', z = .inl s' ∧ I (k + 1) s') (h2 : ∀ s, I n s → ∃ z, step s = some z ∧ ∃ r, z = .inr r ∧ Q r) : ∃ r, fLoopB step N s0 = some r ∧ Q r := by
  have key : ∀ d k, k + d = n → ∀ M, d < M → ∀ s, I k s → ∃ r, fLoopB step M s = some r ∧ Q r := by
    intro d
    induction d with
    | zero =>
      intro k hk M hM s hs
      obtain rfl : k = n := by omega
      obtain ⟨z, z1, r, z2, z3⟩ := h2 s hs
      cases M with
      | zero => omega
      | succ M =>
        unfold fLoopB
        rw [z1, z2]
        exact ⟨r, rfl, z3⟩
    | succ d ih =>
      intro k hk M hM s hs
      obtain ⟨z, z1, s', z2, z3⟩ := h1 k s (by omega) hs
      cases M with
      | zero => omega
      | succ M =>
        unfold fLoopB
        rw [z1, z2]
        exact ih (k + 1) (by omega) M (by omega) s' z3
  exact key n 0 (by omega) N hn s0 h0
theorem fLoopB_for2 {step : σ → Option (σ ⊕ ρ)} {r : ρ} {s0 : σ} {N : Nat} (st : Nat → σ) (n : Nat) (hs : s0 = st 0) (hn : n < N) (h1 : ∀ k, k < n → step (st k) = some (.inl (st (k + 1)))) (h2 : step (st n) = some (.inr r)) : fLoopB step N s0 = some r := by
  rw [hs]
  exact fLoopB_for st n N hn h1 h2
theorem first_or (C : Nat → Prop) (n : Nat) : (∀ k, k < n → C k) ∨ ∃ j, j < n ∧ ¬ C j ∧ ∀ i, i < j → C i := by
  induction n with
  | zero => exact Or.inl (fun k hk => by omega)
  | succ n ih =>
    rcases ih with h | ⟨j, j1, j2, j3⟩
    · by_cases c : C n
      · refine Or.inl (fun k hk => ?_)
        by_cases e : k = n
        · rw [e]; exact c
        · exact h k (by omega)
      · exact Or.inr ⟨n, by omega, c, h⟩
    · exact Or.inr ⟨j, by omega, j2, j3⟩
end EX
section INV
variable {w : FW} {x n b : Nat} {A H S : Nat → Int32} {sv : Int32}
theorem l_isHalf (C : CR w x A n H sv S) (hI : IV b A) {t : Nat} (ht : t < aN A) {h : Nat} (hh : h < 2) {z : Int32} (hz : zz z = nI h) : ∃ v, F_L_isHalf x (nI t) z w = some (1, v) ∧ CR v x A n H sv S ∧ KL w v x := by
  obtain ⟨i1, i2, i3, i4⟩ := hI.1 t ht
  by_cases hp : pun A t h = 0
  · exact ⟨w, l_isHalfN C ht hh hz hp (i2 h hh (pun_0.mp hp)), C, KL.rf _ _⟩
  · exact ⟨_, l_isHalfP C ht hh hz hp i1, C.lnw _ _, KL.ofL _ _ _ _⟩
theorem e_agree {o : Nat} (X : XO w x o A) (hA : WA A) {t : Nat} (ht : t < aN A) (z : Int32) : F_L_doAgree x (nI t) z w = some (aAgree A t) := by
  obtain ⟨h1, h2⟩ := tin hA ht
  rw [e_doAgree X]
  unfold qDoAgree
  rw [if_neg h1, h2]
  rcases agree_01 A t with e | e
  · rw [e]; rfl
  · rw [e]; rfl
theorem agree_1 {t : Nat} (h0 : ¬ pun A t 0 = 0) (h1 : ¬ pun A t 1 = 0) (h : ∀ k, k < aLen A t → aReads A t 0 k = aReads A t 1 k) : aAgree A t = 1 := by
  unfold aAgree
  rw [if_neg h0, if_neg h1]
  rcases find_r (P := fun k => ¬ aReads A t 0 k = aReads A t 1 k) (aLen A t) with ⟨k, e, k1, k2, -⟩ | ⟨e, -⟩
  · exact absurd (h k k1) k2
  · rw [e]
theorem agree_0 {t j : Nat} (hj : j < aLen A t) (h : ¬ aReads A t 0 j = aReads A t 1 j) : aAgree A t = 0 := by
  unfold aAgree
  by_cases h0 : pun A t 0 = 0
  · rw [if_pos h0]
  by_cases h1 : pun A t 1 = 0
  · rw [if_neg h0, if_pos h1]
  rw [if_neg h0, if_neg h1]
  rcases find_r (P := fun k => ¬ aReads A t 0 k = aReads A t 1 k) (aLen A t) with ⟨k, e, k1, k2, -⟩ | ⟨e, e2⟩
  · rw [e]
  · exact absurd h (e2 j hj)
theorem left_h {t h : Nat} (hT : WTk A t) (hh : h < 2) : ∃ L, L ≤ hoT A t h ∧ L ≤ 30 ∧ aLeftOf A t h = nI L := by
  obtain ⟨L, l1, l2⟩ := left_n hT hh
  unfold hoT
  obtain ⟨-, -, -, -, -, -, hH, -⟩ := id hT
  obtain ⟨-, ⟨g, g1, g2⟩, -⟩ := hH h hh
  by_cases h0 : aH A t h 0 = -1
  · rw [if_pos h0]
    have eh : ∀ k, aHoles A t h k = 0 := fun k => by
      unfold aHoles
      rw [if_pos h0]
      split
      · rfl
      · rfl
    refine ⟨0, by omega, by omega, ?_⟩
    unfold aLeftOf
    rw [cnt_congr (g := fun _ => 0) (fun k _ => ?_), cnt_zero]
    · rfl
    unfold aLeft
    rw [eh, g2, nI_div3 g g1]
    by_cases c : (0 : Int32) ≤ 0 - nI (g / 3)
    · rw [if_pos c]
      rw [Int32.le_iff_toInt_le] at c
      have : g / 3 = 0 ∨ g / 3 = 1 ∨ g / 3 = 2 ∨ g / 3 = 3 := by omega
      rcases this with y | y | y | y
      · rw [y]; rfl
      · rw [y] at c; exact absurd c (by decide)
      · rw [y] at c; exact absurd c (by decide)
      · rw [y] at c; exact absurd c (by decide)
    · rw [if_neg c]
  · rw [if_neg h0]
    obtain ⟨f1, f2, f3, f4, f5, f6, f7, f8, f9⟩ := half_n hT hh h0 g2 g1
    have hVl : nV A t ≤ aLen A t := vow_le hT
    have := (tick_word hT).2.2.1
    exact ⟨nLe A t h, f5, by omega, f2⟩
theorem allLeft_n (hA : WA A) (hI : IV b A) : ∃ c d, c ≤ d ∧ d ≤ 60 * b ∧ aAllLeft A = nI c ∧ A 5 = nI d := by
  obtain ⟨-, -, -, d, d1, d2, d3⟩ := hI
  refine ⟨sm (fun t => (aLeftOf A t 0).toNatClampNeg + (aLeftOf A t 1).toNatClampNeg) (aN A), d, ?_, d1, ?_, d2⟩
  · have := sm_le (f := fun t => (aLeftOf A t 0).toNatClampNeg + (aLeftOf A t 1).toNatClampNeg) (g := hoA A) (aN A) (fun t ht => by
      obtain ⟨a, a1, a2, a3⟩ := left_h (h := 0) (hA.n.2.2 t ht) (by omega)
      obtain ⟨c, c1, c2, c3⟩ := left_h (h := 1) (hA.n.2.2 t ht) (by omega)
      rw [a3, c3, nI_clamp (by omega), nI_clamp (by omega)]
      unfold hoA
      omega)
    omega
  · exact cnt_sm _ (fun t ht => by
      obtain ⟨a, a1, a2, a3⟩ := left_h (h := 0) (hA.n.2.2 t ht) (by omega)
      obtain ⟨c, c1, c2, c3⟩ := left_h (h := 1) (hA.n.2.2 t ht) (by omega)
      rw [a3, c3, nI_clamp (by omega), nI_clamp (by omega), nI_add])
theorem ok_1 (hA : WA A) (hI : IV b A) : aOK A = 1 := by
  unfold aOK
  rcases @find_r (fun t => ¬ okT A t) (fun _ => Classical.propDecidable _) (aN A) with ⟨t, e, t1, t2, -⟩ | ⟨e, -⟩
  · refine absurd ?_ t2
    obtain ⟨i1, i2, i3, i4⟩ := hI.1 t t1
    have hT := hA.n.2.2 t t1
    have hd : ∀ h, h < 2 → ¬ aDry A t h = 0 := fun h hh => by
      unfold aDry
      by_cases hp : pun A t h = 0
      · rw [if_pos hp]; decide
      · rw [if_neg hp]
        obtain ⟨h0, -⟩ := pun_1 hp
        obtain ⟨m, g, m1, g1, m2, g2⟩ := half_mg hT hh h0
        obtain ⟨f1, f2, f3, f4, f5, f6, f7, f8, f9⟩ := half_n hT hh h0 g2 g1
        by_cases c : (3 : Int32) ≤ aH A t h 1
        · rw [if_pos c]; decide
        · rw [if_neg c]
          have hg : g < 3 := by
            by_cases y : g < 3
            · exact y
            · exact absurd (show (3 : Int32) ≤ aH A t h 1 by rw [g2]; exact nI_le (a := 3) (by omega) (by omega)) c
          have : aIsRead A t h = 1 := by
            unfold aIsRead
            rw [if_neg h0, (right_n _ _).1, f9 hg, (tick_word hT).1, if_pos rfl]
          rw [this]
          decide
    exact ⟨hd 0 (by omega), hd 1 (by omega), fun z => (i4 z).1⟩
  · rw [e]
theorem mean_n (hA : WA A) {o : Nat} (X : XO w x o A) : ∃ r, F_L_meanWet x w = some r ∧ r = (if A 0 = 0 then 13858279740860792832 else FP.ddiv (FP.i2d (aWetMany A)) (FP.i2d (2 * A 0))) ∧ Op.cmpValue (FP.dcmp r r) .l = 0 := by
  rw [e_meanWet X]
  unfold qMeanWet
  by_cases c : A 0 = 0
  · rw [if_pos c, if_pos c]
    exact ⟨_, rfl, rfl, by decide +kernel⟩
  · rw [if_neg c, if_neg c]
    exact ⟨_, rfl, rfl, by rw [(meanWet_ok hA c).2]; rfl⟩
set_option maxRecDepth 4000 in
theorem fp_f3 : ∀ r, r < 17 → ∀ p, p < 17 → 0 < p → FP.fcmp (FP.fdiv (FP.i2f (nI r)) (FP.i2f (nI p))) (FP.fdiv (FP.i2f (nI r)) (FP.i2f (nI p))) = some .eq := by decide +kernel
theorem share_f (hA : WA A) {o : Nat} (X : XO w x o A) : ∃ r, F_L_readShare x w = some r ∧ r = (if aPunched A = 0 then 3264479232 else FP.fdiv (FP.i2f (aReadMany A)) (FP.i2f (aPunched A))) ∧ Op.cmpValue (FP.fcmp r r) .l = 0 := by
  rw [e_readShare X]
  unfold qReadShare
  by_cases c : aPunched A = 0
  · rw [if_pos c, if_pos c]
    exact ⟨_, rfl, rfl, by decide +kernel⟩
  · rw [if_neg c, if_neg c]
    refine ⟨_, rfl, rfl, ?_⟩
    obtain ⟨s, hs, e⟩ := readMany_bd hA
    obtain ⟨p, hp, e2⟩ := punched_bd hA
    rw [e2, nI_z0 (by omega)] at c
    rw [e, e2, fp_f3 s hs p hp (by omega)]
    rfl
theorem e_line (C : CR w x A n H sv S) {t : Nat} (ht : t < aN A) : F_L_line x (nI t) w = some (nI (lnL A t), cL w x (lnL A t) (lnF A t)) := by
  unfold F_L_line
  rw [fg_t C.1.1, c_line1 C ht, Option.bind_some]
  rfl
theorem fch_a : ∀ j, j < 26 → fch (nI (97 + j) + 1) = nI (97 + (j + 1)) := by decide +kernel
theorem days_m (v : Int32) : (if (-1 : Int32) < v then v else -1) = if 0 ≤ v then v else -1 := by
  by_cases c : (0 : Int32) ≤ v
  · rw [if_pos c, if_pos]
    rw [Int32.le_iff_toInt_le] at c
    rw [Int32.lt_iff_toInt_lt]
    have e0 : (0 : Int32).toInt = 0 := by decide
    have e1 : (-1 : Int32).toInt = -1 := by decide
    omega
  · rw [if_neg c, if_neg]
    rw [Int32.le_iff_toInt_le] at c
    rw [Int32.lt_iff_toInt_lt]
    have e0 : (0 : Int32).toInt = 0 := by decide
    have e1 : (-1 : Int32).toInt = -1 := by decide
    omega
end INV
