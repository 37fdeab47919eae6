/-! Orders: how they are read -/
theorem find_r {P : Nat → Prop} [DecidablePred P] (n : Nat) : (∃ k, (List.range n).find? (fun k => decide (P k)) = some k ∧ k < n ∧ P k ∧ ∀ j, j < k → ¬ P j) ∨ ((List.range n).find? (fun k => decide (P k)) = none ∧ ∀ j, j < n → ¬ P j) := by
  cases hf : (List.range n).find? (fun k => decide (P k)) with
  | none =>
    refine Or.inr ⟨rfl, fun k hk hp => ?_⟩
    have := List.find?_eq_none.mp hf k (List.mem_range.mpr hk)
    simp [hp] at this
  | some k =>
    have hp : P k := by have := List.find?_some hf; simpa using this
    have hk : k < n := List.mem_range.mp (List.mem_of_find?_eq_some hf)
    refine Or.inl ⟨k, rfl, hk, hp, fun j hj hpj => ?_⟩
    obtain ⟨_, as, bs, h1, h2⟩ := List.find?_eq_some_iff_append.mp hf
    have hl : as.length = k := by
      have e1 : (List.range n)[as.length]? = some k := by rw [h1]; simp
      rw [List.getElem?_range (by have := congrArg List.length h1; simp at this; omega)] at e1
      exact Option.some.inj e1
    have hm : j ∈ as := by
      have e1 : (List.range n)[j]? = some j := List.getElem?_range (by omega)
      rw [h1, List.getElem?_append_left (by omega)] at e1
      exact List.mem_of_getElem? e1
    have := h2 j hm
    simp [hpj] at this
/-- how many letters stand from p on, six at most -/
def lf (f : Nat → Int32) (L p : Nat) : Nat := match (List.range 6).find? (fun k => decide (¬ (p + k < L ∧ isLet (f (p + k)) = 1))) with
  | some k => k
  | none => 6
theorem lf_s (f : Nat → Int32) (L p : Nat) : lf f L p ≤ 6 ∧ (∀ k, k < lf f L p → p + k < L ∧ isLet (f (p + k)) = 1) ∧ (lf f L p < 6 → ¬ (p + lf f L p < L ∧ isLet (f (p + lf f L p)) = 1)) := by
  rcases find_r (P := fun k => ¬ (p + k < L ∧ isLet (f (p + k)) = 1)) 6 with ⟨k, e, h1, h2, h3⟩ | ⟨e, h3⟩
  · have : lf f L p = k := by
      unfold lf
      rw [e]
    rw [this]
    exact ⟨by omega, fun j hj => Classical.not_not.mp (h3 j hj), fun _ => h2⟩
  · have : lf f L p = 6 := by
      unfold lf
      rw [e]
    rw [this]
    exact ⟨by omega, fun j hj => Classical.not_not.mp (h3 j hj), fun h => by omega⟩
/-- how many characters from p on fitN a character of a shape -/
def fitN (f : Nat → Int32) (L : Nat) (s : Int32) (p : Nat) : Nat := if p < L then (if s = 33 then 0 else if s = 35 then (if f p < 48 then 0 else if 57 < f p then 0 else 1) else if s = 64 then lf f L p else if s = 104 then (if f p = 111 then 1 else if f p = 114 then 1 else 0) else if f p = s then 1 else 0) else 0
theorem fit_le (f : Nat → Int32) (L : Nat) (s : Int32) (p : Nat) : fitN f L s p = 0 ∨ p + fitN f L s p ≤ L := by
  unfold fitN
  by_cases h : p < L
  · rw [if_pos h]
    obtain ⟨-, h2, -⟩ := lf_s f L p
    have hl : lf f L p = 0 ∨ p + lf f L p ≤ L := by
      by_cases z : lf f L p = 0
      · exact Or.inl z
      · have := (h2 (lf f L p - 1) (by omega)).1
        omega
    split
    · exact Or.inl rfl
    · split
      · split
        · exact Or.inl rfl
        · split
          · exact Or.inl rfl
          · exact Or.inr (by omega)
      · split
        · exact hl
        · split
          · split
            · exact Or.inr (by omega)
            · split
              · exact Or.inr (by omega)
              · exact Or.inl rfl
          · split
            · exact Or.inr (by omega)
            · exact Or.inl rfl
  · rw [if_neg h]
    exact Or.inl rfl
/-- where a reader stands: well at p, or in a fault at p -/
def vl (r : Nat ⊕ Nat) : Nat := match r with
  | .inl p => p
  | .inr p => p
def bd (r : Nat ⊕ Nat) : Int32 := match r with
  | .inl _ => 0
  | .inr _ => 1
def pst (f : Nat → Int32) (L : Nat) (r : Nat ⊕ Nat) (s : Int32) : Nat ⊕ Nat := match r with
  | .inl p => if fitN f L s p = 0 then .inr p else .inl (p + fitN f L s p)
  | .inr q => .inr q
theorem pst_0 {f : Nat → Int32} {L p : Nat} {s : Int32} (h : fitN f L s p = 0) : pst f L (.inl p) s = .inr p := if_pos h
theorem pst_1 {f : Nat → Int32} {L p : Nat} {s : Int32} (h : ¬ fitN f L s p = 0) : pst f L (.inl p) s = .inl (p + fitN f L s p) := if_neg h
theorem pst_r {f : Nat → Int32} {L q : Nat} {s : Int32} : pst f L (.inr q) s = .inr q := rfl
theorem pst_le {f : Nat → Int32} {L : Nat} {r : Nat ⊕ Nat} {s : Int32} (h : vl r ≤ L) : vl r ≤ vl (pst f L r s) ∧ vl (pst f L r s) ≤ L := by
  cases r with
  | inl p =>
    have h' : p ≤ L := h
    by_cases c : fitN f L s p = 0
    · rw [pst_0 c]
      exact ⟨Nat.le_refl _, h'⟩
    · rw [pst_1 c]
      have := (fit_le f L s p).resolve_left c
      show p ≤ p + fitN f L s p ∧ p + fitN f L s p ≤ L
      omega
  | inr q => exact ⟨Nat.le_refl _, h⟩
theorem fold_le {f : Nat → Int32} {L : Nat} (l : List Int32) : ∀ r, vl r ≤ L → vl r ≤ vl (l.foldl (pst f L) r) ∧ vl (l.foldl (pst f L) r) ≤ L := by
  induction l with
  | nil => exact fun r h => ⟨Nat.le_refl _, h⟩
  | cons s l ih =>
    intro r h
    have h1 := pst_le (f := f) (s := s) h
    have h2 := ih (pst f L r s) h1.2
    exact ⟨Nat.le_trans h1.1 h2.1, h2.2⟩
theorem fold_r {f : Nat → Int32} {L q : Nat} (l : List Int32) : l.foldl (pst f L) (.inr q) = .inr q := by
  induction l with
  | nil => rfl
  | cons s l ih => exact ih
def shp (c : Int32) : Nat := if c = 99 then 10 else (if c = 100 then 13 else (if c = 101 then 1 else (if c = 102 then 7 else (if c = 103 then 8 else (if c = 104 then 1 else (if c = 105 then 1 else (if c = 106 then 1 else (if c = 107 then 1 else (if c = 108 then 6 else (if c = 109 then 9 else (if c = 110 then 2 else (if c = 111 then 11 else (if c = 112 then 3 else (if c = 113 then 1 else (if c = 114 then 1 else (if c = 115 then 1 else (if c = 116 then 5 else (if c = 117 then 1 else (if c = 118 then 1 else (if c = 119 then 4 else (if c = 120 then 12 else 1)))))))))))))))))))))
theorem itlt {P : Prop} [Decidable P] {a b n : Nat} (ha : a < n) (hb : b < n) : (if P then a else b) < n := by
  split
  · exact ha
  · exact hb
theorem shp_14 (c : Int32) : shp c < 14 := by
  unfold shp
  exact itlt (by decide) (itlt (by decide) (itlt (by decide) (itlt (by decide) (itlt (by decide) (itlt (by decide) (itlt (by decide) (itlt (by decide) (itlt (by decide) (itlt (by decide) (itlt (by decide) (itlt (by decide) (itlt (by decide) (itlt (by decide) (itlt (by decide) (itlt (by decide) (itlt (by decide) (itlt (by decide) (itlt (by decide) (itlt (by decide) (itlt (by decide) (itlt (by decide) (by decide))))))))))))))))))))))
theorem c_shapeOf (c : Int32) (w : FW) : F_X4_shapeOf c w = some (shp c) := by
  unfold F_X4_shapeOf shp
  simp only [ite_some]
/-- the shape of the order at p -/
def shN' (f : Nat → Int32) (L p : Nat) : Nat := if p < L then shp (f p) else 1
theorem shN'_14 (f : Nat → Int32) (L p : Nat) : shN' f L p < 14 := by
  unfold shN'
  split
  · exact shp_14 _
  · decide
/-- where the order at p ends -/
def eoo (f : Nat → Int32) (L p : Nat) : Nat ⊕ Nat := (fByt.getD (shN' f L p) []).foldl (pst f L) (.inl p)
theorem shapes : ∀ n, n < 14 → ¬ fByt.getD n [] = [] := by decide +kernel
theorem eoo_le {f : Nat → Int32} {L p : Nat} (h : p ≤ L) : p ≤ vl (eoo f L p) ∧ vl (eoo f L p) ≤ L ∧ ∀ q, eoo f L p = .inl q → p < q := by
  have h1 := fold_le (f := f) (fByt.getD (shN' f L p) []) (.inl p) h
  refine ⟨h1.1, h1.2, fun q hq => ?_⟩
  unfold eoo at hq
  have hne := shapes (shN' f L p) (shN'_14 f L p)
  cases hl : fByt.getD (shN' f L p) [] with
  | nil => exact absurd hl hne
  | cons s l =>
    rw [hl] at hq
    have hq' : l.foldl (pst f L) (pst f L (.inl p) s) = .inl q := hq
    by_cases c : fitN f L s p = 0
    · rw [pst_0 c, fold_r] at hq'
      cases hq'
    · rw [pst_1 c] at hq'
      have h3 := (fit_le f L s p).resolve_left c
      have h2 := fold_le (f := f) l (.inl (p + fitN f L s p)) h3
      rw [hq'] at h2
      have h4 : p + fitN f L s p ≤ q := h2.1
      omega
theorem fit_33 {f : Nat → Int32} {L : Nat} {s : Int32} {p : Nat} : ∀ k, k < fitN f L s p → ¬ f (p + k) = 33 := by
  intro k hk z
  unfold fitN at hk
  by_cases h : p < L
  · rw [if_pos h] at hk
    by_cases c1 : s = 33
    · rw [if_pos c1] at hk
      omega
    rw [if_neg c1] at hk
    by_cases c2 : s = 35
    · rw [if_pos c2] at hk
      by_cases d1 : f p < 48
      · rw [if_pos d1] at hk
        omega
      · rw [if_neg d1] at hk
        have k0 : k = 0 := by
          split at hk
          · omega
          · omega
        subst k0
        rw [Nat.add_zero] at z
        rw [z] at d1
        exact d1 (by decide)
    rw [if_neg c2] at hk
    by_cases c3 : s = 64
    · rw [if_pos c3] at hk
      have := ((lf_s f L p).2.1 k hk).2
      rw [z] at this
      exact absurd this (by decide +kernel)
    rw [if_neg c3] at hk
    by_cases c4 : s = 104
    · rw [if_pos c4] at hk
      by_cases d1 : f p = 111
      · rw [if_pos d1] at hk
        have k0 : k = 0 := by omega
        subst k0
        rw [Nat.add_zero, d1] at z
        exact absurd z (by decide)
      · rw [if_neg d1] at hk
        by_cases d2 : f p = 114
        · rw [if_pos d2] at hk
          have k0 : k = 0 := by omega
          subst k0
          rw [Nat.add_zero, d2] at z
          exact absurd z (by decide)
        · rw [if_neg d2] at hk
          omega
    rw [if_neg c4] at hk
    by_cases c5 : f p = s
    · rw [if_pos c5] at hk
      have k0 : k = 0 := by omega
      subst k0
      rw [Nat.add_zero, c5] at z
      exact c1 z
    · rw [if_neg c5] at hk
      omega
  · rw [if_neg h] at hk
    omega
theorem fold_33 {f : Nat → Int32} {L : Nat} : ∀ (l : List Int32) (p q : Nat), l.foldl (pst f L) (.inl p) = .inl q → ∀ k, p ≤ k → k < q → ¬ f k = 33 := by
  intro l
  induction l with
  | nil =>
    intro p q h k h1 h2
    have : p = q := Sum.inl.inj h
    omega
  | cons s l ih =>
    intro p q h k h1 h2
    rw [List.foldl_cons] at h
    by_cases c : fitN f L s p = 0
    · rw [pst_0 c, fold_r] at h
      cases h
    · rw [pst_1 c] at h
      by_cases z : k < p + fitN f L s p
      · have := fit_33 (f := f) (L := L) (s := s) (p := p) (k - p) (by omega)
        rw [show p + (k - p) = k by omega] at this
        exact this
      · exact ih _ q h k (by omega) h2
/-- no sign of an order is '!' -/
theorem eoo_33 {f : Nat → Int32} {L p q : Nat} (h : eoo f L p = .inl q) : ∀ k, p ≤ k → k < q → ¬ f k = 33 := fold_33 _ p q h
/-- the orders one behind another -/
def psN (f : Nat → Int32) (L : Nat) : Nat → Nat
  | 0 => 0
  | i + 1 => vl (eoo f L (psN f L i)) + 1
def enN (f : Nat → Int32) (L i : Nat) : Nat := vl (eoo f L (psN f L i))
theorem psN_s (f : Nat → Int32) (L i : Nat) : psN f L (i + 1) = enN f L i + 1 := rfl
def okO (f : Nat → Int32) (L i : Nat) : Prop := eoo f L (psN f L i) = .inl (enN f L i) ∧ enN f L i < L ∧ f (enN f L i) = 59
theorem okO_le {f : Nat → Int32} {L : Nat} : ∀ j, (∀ i, i < j → okO f L i) → 2 * j ≤ psN f L j ∧ psN f L j ≤ L := by
  intro j
  induction j with
  | zero => exact fun _ => ⟨Nat.le_refl _, Nat.zero_le _⟩
  | succ j ih =>
    intro h
    have h1 := ih (fun i hi => h i (by omega))
    have h2 := h j (by omega)
    have h3 := (eoo_le (f := f) h1.2).2.2 _ h2.1
    have h4 := h2.2.1
    rw [psN_s]
    omega
theorem parse_m {f : Nat → Int32} {L : Nat} (hL : L ≤ 60) : ∃ m, m ≤ 30 ∧ ¬ okO f L m ∧ (∀ i, i < m → okO f L i) ∧ ∀ i, i ≤ m → 2 * i ≤ psN f L i ∧ psN f L i ≤ L := by
  have key : ∀ N, (∃ m, m < N ∧ ¬ okO f L m ∧ ∀ i, i < m → okO f L i) ∨ ∀ i, i < N → okO f L i := by
    intro N
    induction N with
    | zero => exact Or.inr (fun i hi => by omega)
    | succ N ih =>
      rcases ih with ⟨m, h1, h2, h3⟩ | h
      · exact Or.inl ⟨m, by omega, h2, h3⟩
      · rcases Classical.em (okO f L N) with c | c
        · refine Or.inr (fun i hi => ?_)
          by_cases z : i = N
          · rw [z]
            exact c
          · exact h i (by omega)
        · exact Or.inl ⟨N, by omega, c, h⟩
  rcases key 31 with ⟨m, h1, h2, h3⟩ | h
  · exact ⟨m, by omega, h2, h3, fun i hi => okO_le i (fun j hj => h3 j (by omega))⟩
  · have := okO_le 31 h
    omega
/-! the class's reading -/
def BU (w : FW) (x L : Nat) (f : Nat → Int32) : Prop := w.1 x = 5 ∧ gR w 407 x 0 = x + 142 ∧ w.1 (x + 142) = 10 ∧ w.2.1 (x + 142) = 60 ∧ gI w 408 x 0 = nI L ∧ L ≤ 60 ∧ ∀ i, i < L → gI w 600 (x + 142) i = f i ∧ fch (f i) = f i
theorem neg_t : ∀ q, q < 100 → nI q ^^^ (-1) < 0 ∧ ¬ 0 ≤ nI q ^^^ (-1) ∧ (nI q ^^^ (-1)) ^^^ (-1) = nI q := by decide +kernel
section CPARSE
variable {w : FW} {x L : Nat} {f : Nat → Int32}
theorem c_sign (B : BU w x L f) {p : Nat} (hp : p < 2000) : F_X4_signAt x (nI p) w = some (if p < L then f p else 33) := by
  obtain ⟨b1, b2, b3, b4, b5, b6, b7⟩ := B
  unfold F_X4_signAt
  rw [if_neg (nI_pos (by omega)), fg_t b1, b5]
  by_cases h : p < L
  · rw [if_neg (nI_ge h (by omega)), if_pos h, b2, fg_t b3, fg_t (by rw [b4]; exact nI_in (by omega) (by decide)), nI_clamp (by omega), (b7 _ h).1]
    exact fg_t (b7 _ h).2
  · rw [if_pos (nI_le (by omega) (by omega)), if_neg h]
theorem isLet_33 : isLet 33 = 0 := by decide +kernel
theorem c_lf (B : BU w x L f) {p : Nat} (hp : p < 1000) : F_X4_lettersFrom x (nI p) w = some (nI (lf f L p)) := by
  have B' := B
  obtain ⟨b1, b2, b3, b4, b5, b6, b7⟩ := B'
  have h := fLoop_find (σ := Int32) (ρ := Int32) (f := (fun s1 => (if 6 ≤ s1 then some (.inr s1) else fg (w.1 x = 5) inferInstance ((F_X4_signAt x ((nI p) + s1) w).bind (fun r11 => (F_X4_isLetter r11 w).bind (fun r15 => (if r15 = 0 then some (.inr s1) else some (.inl (s1 + 1))))))))) (fun k => nI k) 6 (fun k => ¬ (p + k < L ∧ isLet (f (p + k)) = 1)) (r := nI 6) (q := fun k => nI k) (fun k hk hP => ?_) (fun k hk hP => ?_) ?_
  · unfold F_X4_lettersFrom
    refine ob h ?_
    unfold lf
    rcases find_r (P := fun k => ¬ (p + k < L ∧ isLet (f (p + k)) = 1)) 6 with ⟨k, e, -⟩ | ⟨e, -⟩
    · rw [e]
    · rw [e]
  · have hP' := Classical.not_not.mp hP
    have c1 : ¬ (6 : Int32) ≤ nI k := nI_ge (b := 6) hk (by decide)
    show (if (6 : Int32) ≤ nI k then _ else fg (w.1 x = 5) inferInstance ((F_X4_signAt x (nI p + nI k) w).bind _)) = _
    rw [if_neg c1, fg_t b1, nI_add, c_sign B (by omega), Option.bind_some, if_pos hP'.1, c_isLetter, Option.bind_some, if_neg (by rw [hP'.2]; decide), nI_1]
  · have c1 : ¬ (6 : Int32) ≤ nI k := nI_ge (b := 6) hk (by decide)
    show (if (6 : Int32) ≤ nI k then _ else fg (w.1 x = 5) inferInstance ((F_X4_signAt x (nI p + nI k) w).bind _)) = _
    rw [if_neg c1, fg_t b1, nI_add, c_sign B (by omega), Option.bind_some]
    by_cases c : p + k < L
    · have c3 : isLet (f (p + k)) = 0 := (isLet_01 _).resolve_right (fun z => hP ⟨c, z⟩)
      rw [if_pos c, c_isLetter, Option.bind_some, if_pos c3]
    · rw [if_neg c, c_isLetter, Option.bind_some, if_pos isLet_33]
  · have c1 : (6 : Int32) ≤ nI 6 := by decide
    show (if (6 : Int32) ≤ nI 6 then _ else _) = _
    rw [if_pos c1]
theorem c_fit (B : BU w x L f) (s : Int32) {p : Nat} (hp : p < 1000) : F_X4_fittingCharacters x s (nI p) w = some (nI (fitN f L s p)) := by
  have hlf := c_lf B hp
  have hs := c_sign B (p := p) (by omega)
  unfold F_X4_fittingCharacters fitN
  by_cases h : p < L
  · rw [if_pos h] at hs
    rw [fg_t B.1, hs, Option.bind_some, if_pos h, hlf]
    by_cases c1 : s = 33
    · rw [if_pos c1, if_pos c1]
      rfl
    rw [if_neg c1, if_neg c1]
    by_cases c2 : s = 35
    · rw [if_pos c2, if_pos c2]
      by_cases d1 : f p < 48
      · rw [if_pos d1, if_pos d1]
        rfl
      rw [if_neg d1, if_neg d1]
      by_cases d2 : 57 < f p
      · rw [if_pos d2, if_pos d2]
        rfl
      rw [if_neg d2, if_neg d2]
      rfl
    rw [if_neg c2, if_neg c2]
    by_cases c3 : s = 64
    · rw [if_pos c3, if_pos c3]
      rfl
    rw [if_neg c3, if_neg c3]
    by_cases c4 : s = 104
    · rw [if_pos c4, if_pos c4]
      by_cases d1 : f p = 111
      · rw [if_pos d1, if_pos d1]
        rfl
      rw [if_neg d1, if_neg d1]
      by_cases d2 : f p = 114
      · rw [if_pos d2, if_pos d2]
        rfl
      rw [if_neg d2, if_neg d2]
      rfl
    rw [if_neg c4, if_neg c4]
    by_cases c5 : f p = s
    · rw [if_pos c5, if_pos c5]
      rfl
    rw [if_neg c5, if_neg c5]
    rfl
  · rw [if_neg h] at hs
    have l0 : lf f L p = 0 := by
      have := (lf_s f L p).2.1
      by_cases z : 0 < lf f L p
      · exact absurd (this 0 z).1 (by omega)
      · omega
    rw [fg_t B.1, hs, Option.bind_some, if_neg h, hlf, l0]
    by_cases c1 : s = 33
    · rw [if_pos c1]
      rfl
    rw [if_neg c1]
    by_cases c2 : s = 35
    · rw [if_pos c2, if_pos (show (33 : Int32) < 48 by decide)]
      rfl
    rw [if_neg c2]
    by_cases c3 : s = 64
    · rw [if_pos c3]
      rfl
    rw [if_neg c3]
    by_cases c4 : s = 104
    · rw [if_pos c4, if_neg (show ¬ (33 : Int32) = 111 by decide), if_neg (show ¬ (33 : Int32) = 114 by decide)]
      rfl
    rw [if_neg c4, if_neg (fun z => c1 z.symm)]
    rfl
def eV (r : Nat ⊕ Nat) : Int32 := match r with
  | .inl q => nI q
  | .inr q => nI q ^^^ (-1)
theorem c_shape (B : BU w x L f) {n : Nat} (hn : n < 14) : ∀ (l : List Int32) (k p : Nat), l = (fByt.getD n []).drop k → k ≤ (fByt.getD n []).length → p ≤ L → fLoop (σ := Int32 × Int32) (ρ := (Int32) ⊕ (Int32)) (fun s8 => fg (n < 14) inferInstance ((if (fsl n) ≤ s8.2 then some (.inr (.inl s8.1)) else fg (n < 14) inferInstance (fg (¬ (s8.2 < 0 ∨ (fByt.getD n []).length ≤ Int32.toNatClampNeg s8.2)) inferInstance ((F_X4_fittingCharacters x (fsc n s8.2) s8.1 w).bind (fun r21 => (if r21 = 0 then some (.inr (.inr (s8.1 ^^^ (-1)))) else some (.inl ((s8.1 + r21), (s8.2 + 1)))))))))) (nI p, nI k) = some (match l.foldl (pst f L) (.inl p) with
    | .inl q => .inl (nI q)
    | .inr q => .inr (nI q ^^^ (-1))) := by
  have hL := B.2.2.2.2.2.1
  have hlen : ∀ n, n < 14 → (fByt.getD n []).length < 1000 := by decide +kernel
  have h14 := hlen n hn
  have hfsl : fsl n = nI (fByt.getD n []).length := rfl
  intro l
  induction l with
  | nil =>
    intro k p hl hk hp
    have hk' : (fByt.getD n []).length ≤ k := List.drop_eq_nil_iff.mp hl.symm
    refine fLoop_out ?_
    show fg (n < 14) _ (if fsl n ≤ nI k then _ else _) = _
    rw [fg_t hn, hfsl, if_pos (nI_le hk' (by omega))]
    rfl
  | cons s l ih =>
    intro k p hl hk hp
    have hk' : k < (fByt.getD n []).length := by
      by_cases z : k < (fByt.getD n []).length
      · exact z
      · have : (fByt.getD n []).drop k = [] := List.drop_eq_nil_iff.mpr (by omega)
        rw [this] at hl
        cases hl
    have hs : (fByt.getD n []).getD k 0 = s ∧ (fByt.getD n []).drop (k + 1) = l := by
      have e := List.drop_eq_getElem_cons hk'
      rw [← hl] at e
      injection e with e1 e2
      exact ⟨by rw [List.getD_eq_getElem?_getD, List.getElem?_eq_getElem hk']; exact e1.symm, e2.symm⟩
    have hfsc : fsc n (nI k) = s := by
      unfold fsc
      rw [nI_clamp (by omega)]
      exact hs.1
    have hstep : ((fun s8 => fg (n < 14) inferInstance ((if (fsl n) ≤ s8.2 then some (.inr (.inl s8.1)) else fg (n < 14) inferInstance (fg (¬ (s8.2 < 0 ∨ (fByt.getD n []).length ≤ Int32.toNatClampNeg s8.2)) inferInstance ((F_X4_fittingCharacters x (fsc n s8.2) s8.1 w).bind (fun r21 => (if r21 = 0 then some (.inr (.inr (s8.1 ^^^ (-1)))) else some (.inl ((s8.1 + r21), (s8.2 + 1)))))))))) : Int32 × Int32 → Option ((Int32 × Int32) ⊕ (Int32 ⊕ Int32))) (nI p, nI k) = if fitN f L s p = 0 then some (.inr (.inr (nI p ^^^ (-1)))) else some (.inl (nI (p + fitN f L s p), nI (k + 1))) := by
      show fg (n < 14) _ (if fsl n ≤ nI k then _ else fg (n < 14) _ (fg (¬ (nI k < 0 ∨ (fByt.getD n []).length ≤ Int32.toNatClampNeg (nI k))) _ ((F_X4_fittingCharacters x (fsc n (nI k)) (nI p) w).bind _))) = _
      rw [fg_t hn, hfsl, if_neg (nI_ge hk' (by omega)), fg_t hn, fg_t (nI_in hk' (by omega)), hfsc, c_fit B s (by omega), Option.bind_some]
      have h6 := (fit_le f L s p)
      by_cases c : fitN f L s p = 0
      · rw [if_pos c, c]
        rfl
      · rw [if_neg c, if_neg (show ¬ nI (fitN f L s p) = 0 from fun z => c ((nI_eq (a := fitN f L s p) (b := 0) (by omega) (by decide)).mp z)), nI_add, nI_1]
    rw [List.foldl_cons]
    by_cases c : fitN f L s p = 0
    · rw [if_pos c] at hstep
      rw [pst_0 c, fold_r]
      exact fLoop_out hstep
    · rw [if_neg c] at hstep
      rw [pst_1 c]
      have h6 := (fit_le f L s p).resolve_left c
      exact (fLoop_go hstep).trans (ih (k + 1) (p + fitN f L s p) hs.2.symm (by omega) h6)
theorem c_eoo (B : BU w x L f) {p : Nat} (hp : p ≤ L) : F_X4_endOfOrder x (nI p) w = some (eV (eoo f L p)) := by
  have B' := B
  obtain ⟨b1, b2, b3, b4, b5, b6, b7⟩ := B'
  have hsh : F_X4_shapeOf (if p < L then f p else 33) w = some (shN' f L p) := by
    rw [c_shapeOf]
    unfold shN'
    by_cases h : p < L
    · rw [if_pos h, if_pos h]
    · rw [if_neg h, if_neg h]
      exact congrArg some (show shp 33 = 1 by decide +kernel)
  have hs := c_shape B (shN'_14 f L p) (fByt.getD (shN' f L p) []) 0 p rfl (Nat.zero_le _) hp
  unfold F_X4_endOfOrder
  rw [fg_t b1, c_sign B (by omega), Option.bind_some, hsh, Option.bind_some]
  refine ob hs ?_
  unfold eoo
  cases (fByt.getD (shN' f L p) []).foldl (pst f L) (.inl p) with
  | inl q => rfl
  | inr q => rfl
/-- what is at fault in the input: -1 for nothing -/
def fltV (f : Nat → Int32) (L m : Nat) : Int32 := match eoo f L (psN f L m) with
  | .inl q => if q < L then nI q else -1
  | .inr q => nI q
theorem c_fault (B : BU w x L f) {m : Nat} (hm : m ≤ 30) (h1 : ¬ okO f L m) (h2 : ∀ i, i < m → okO f L i) (h3 : ∀ i, i ≤ m → 2 * i ≤ psN f L i ∧ psN f L i ≤ L) : F_X4_faultOfInput x w = some (fltV f L m) := by
  have B' := B
  obtain ⟨b1, b2, b3, b4, b5, b6, b7⟩ := B'
  have h := fLoop_for (σ := Int32 × Int32) (ρ := (Unit) ⊕ (Int32)) (f := (fun s1 => (if 60 ≤ s1.2 then some (.inr (.inl ())) else fg (w.1 x = 5) inferInstance ((F_X4_endOfOrder x s1.1 w).bind (fun r11 => (if 0 ≤ r11 then (if r11 < (gI w 408 x 0) then (F_X4_signAt x r11 w).bind (fun r17 => (if r17 = 59 then some (.inl ((r11 + 1), (s1.2 + 1))) else some (.inr (.inr r11)))) else some (.inr (.inr (-1)))) else some (.inr (.inr (r11 ^^^ (-1)))))))))) (fun i => (nI (psN f L i), nI i)) m (r := .inr (fltV f L m)) (fun i hi => ?_) ?_
  · unfold F_X4_faultOfInput
    refine ob h ?_
    rfl
  · have c1 : ¬ (60 : Int32) ≤ nI i := nI_ge (b := 60) (by omega) (by decide)
    obtain ⟨o1, o2, o3⟩ := h2 i hi
    show (if (60 : Int32) ≤ nI i then _ else fg (w.1 x = 5) inferInstance ((F_X4_endOfOrder x (nI (psN f L i)) w).bind _)) = _
    rw [if_neg c1, fg_t b1, c_eoo B (h3 i (by omega)).2, Option.bind_some, o1]
    show (if 0 ≤ nI (enN f L i) then (if nI (enN f L i) < gI w 408 x 0 then (F_X4_signAt x (nI (enN f L i)) w).bind _ else _) else _) = _
    rw [if_pos (nI_pos' (by omega)), b5, if_pos ((nI_ltI (by omega) (by omega)).mpr o2), c_sign B (by omega), Option.bind_some, if_pos o2, if_pos o3, show eV (.inl (enN f L i)) + 1 = nI (enN f L i + 1) from nI_1 _, nI_1, psN_s]
  · have c1 : ¬ (60 : Int32) ≤ nI m := nI_ge (b := 60) (by omega) (by decide)
    have hle := eoo_le (f := f) (h3 m (Nat.le_refl _)).2
    show (if (60 : Int32) ≤ nI m then _ else fg (w.1 x = 5) inferInstance ((F_X4_endOfOrder x (nI (psN f L m)) w).bind _)) = _
    rw [if_neg c1, fg_t b1, c_eoo B (h3 m (Nat.le_refl _)).2, Option.bind_some]
    cases he : eoo f L (psN f L m) with
    | inl q =>
      have hq : enN f L m = q := by
        unfold enN
        rw [he]
        rfl
      rw [he] at hle
      have hqL : q ≤ L := hle.2.1
      have e9 : fltV f L m = if q < L then nI q else -1 := by
        unfold fltV
        rw [he]
      rw [e9]
      show (if 0 ≤ nI q then (if nI q < gI w 408 x 0 then (F_X4_signAt x (nI q) w).bind _ else _) else _) = _
      rw [if_pos (nI_pos' (by omega)), b5]
      by_cases c : q < L
      · have h59 : ¬ f q = 59 := fun z => h1 ⟨by rw [hq]; exact he, by rw [hq]; exact c, by rw [hq]; exact z⟩
        rw [if_pos ((nI_ltI (by omega) (by omega)).mpr c), c_sign B (by omega), Option.bind_some, if_pos c, if_neg h59, if_pos c]
        rfl
      · rw [if_neg (fun z => c ((nI_ltI (by omega) (by omega)).mp z)), if_neg c]
    | inr q =>
      rw [he] at hle
      have hqL : q ≤ L := hle.2.1
      obtain ⟨n1, n2, n3⟩ := neg_t q (by omega)
      have e9 : fltV f L m = nI q := by
        unfold fltV
        rw [he]
      rw [e9]
      show (if 0 ≤ nI q ^^^ (-1) then _ else _) = _
      rw [if_neg n2, show eV (.inr q) ^^^ (-1) = nI q from n3]
end CPARSE
