/-! What the law says of letters and halves, in numbers -/
def sm (f : Nat → Nat) : Nat → Nat
  | 0 => 0
  | n + 1 => sm f n + f n
theorem sm_s (f : Nat → Nat) (n : Nat) : sm f (n + 1) = sm f n + f n := rfl
theorem cnt_sm {f : Nat → Int32} {g : Nat → Nat} : ∀ n, (∀ k, k < n → f k = nI (g k)) → cnt f n = nI (sm g n) := by
  intro n
  induction n with
  | zero => exact fun _ => rfl
  | succ n ih =>
    intro h
    rw [cnt_s, ih (fun k hk => h k (by omega)), h n (by omega), nI_add]
    rfl
theorem sm_le {f g : Nat → Nat} : ∀ n, (∀ k, k < n → f k ≤ g k) → sm f n ≤ sm g n := by
  intro n
  induction n with
  | zero => exact fun _ => Nat.le_refl _
  | succ n ih =>
    intro h
    have h1 := ih (fun k hk => h k (by omega))
    have h2 := h n (by omega)
    rw [sm_s, sm_s]
    omega
theorem sm_congr {f g : Nat → Nat} : ∀ n, (∀ k, k < n → f k = g k) → sm f n = sm g n := by
  intro n
  induction n with
  | zero => exact fun _ => rfl
  | succ n ih =>
    intro h
    rw [sm_s, sm_s, ih (fun k hk => h k (by omega)), h n (by omega)]
theorem sm_add (f g : Nat → Nat) : ∀ n, sm (fun k => f k + g k) n = sm f n + sm g n := by
  intro n
  induction n with
  | zero => rfl
  | succ n ih =>
    rw [sm_s, sm_s, sm_s, ih]
    omega
theorem sm_mul (f : Nat → Nat) (c : Nat) : ∀ n, sm (fun k => f k * c) n = sm f n * c := by
  intro n
  induction n with
  | zero => exact (Nat.zero_mul c).symm
  | succ n ih =>
    rw [sm_s, sm_s, ih, Nat.add_mul]
theorem sm_const (c : Nat) : ∀ n, sm (fun _ => c) n = n * c := by
  intro n
  induction n with
  | zero => exact (Nat.zero_mul c).symm
  | succ n ih => rw [sm_s, ih, Nat.add_mul, Nat.one_mul]
theorem sm_eq {f g : Nat → Nat} : ∀ n, (∀ k, k < n → f k ≤ g k) → sm f n = sm g n → ∀ k, k < n → f k = g k := by
  intro n
  induction n with
  | zero => exact fun _ _ k hk => absurd hk (Nat.not_lt_zero k)
  | succ n ih =>
    intro h he k hk
    have h1 := sm_le n (fun k hk => h k (by omega))
    have h2 := h n (by omega)
    rw [sm_s, sm_s] at he
    by_cases z : k = n
    · rw [z]
      omega
    · exact ih (fun k hk => h k (by omega)) (by omega) k (by omega)
theorem sm_pos {f : Nat → Nat} : ∀ n, 1 ≤ sm f n → ∃ k, k < n ∧ 1 ≤ f k := by
  intro n
  induction n with
  | zero =>
    intro h
    exact absurd (show 1 ≤ 0 from h) (by decide)
  | succ n ih =>
    intro h
    rw [sm_s] at h
    by_cases z : 1 ≤ f n
    · exact ⟨n, by omega, z⟩
    · obtain ⟨k, h1, h2⟩ := ih (by omega)
      exact ⟨k, by omega, h2⟩
/-- a letter: its holes under a mood, what is left of them, what is read under another mood -/
def pHol (c m : Int32) : Int32 := if vow c = -1 then 0 else 1 + m5 (vow c + m)
def pLef (c m g : Int32) : Int32 := if 0 ≤ pHol c m - g / 3 then pHol c m - g / 3 else 0
def pRd (c m g m' : Int32) : Int32 := if vow c = -1 then c else if pLef c m g = 0 then 63 else vowFor (m5 (pLef c m g - 1 - m'))
def vN (c : Int32) : Nat := if vow c = -1 then 0 else 1
def hoN (c m : Int32) : Nat := (pHol c m).toNatClampNeg
def leN (c m g : Int32) : Nat := (pLef c m g).toNatClampNeg
theorem fct1 : ∀ j, j < 26 → ∀ m, m < 5 → isLet (nI (97 + j)) = 1 → pHol (nI (97 + j)) (nI m) = nI (hoN (nI (97 + j)) (nI m)) ∧ hoN (nI (97 + j)) (nI m) ≤ vN (nI (97 + j)) * 5 ∧ vN (nI (97 + j)) ≤ hoN (nI (97 + j)) (nI m) := by decide +kernel
theorem fct2a : ∀ j, j < 26 → ∀ m, m < 5 → ∀ g, g < 10 → isLet (nI (97 + j)) = 1 → pLef (nI (97 + j)) (nI m) (nI g) = nI (leN (nI (97 + j)) (nI m) (nI g)) ∧ leN (nI (97 + j)) (nI m) (nI g) ≤ hoN (nI (97 + j)) (nI m) := by decide +kernel
theorem fct2b : ∀ j, j < 26 → ∀ m, m < 5 → ∀ g, g < 10 → isLet (nI (97 + j)) = 1 → hoN (nI (97 + j)) (nI m) ≤ leN (nI (97 + j)) (nI m) (nI g) + vN (nI (97 + j)) * (g / 3) := by decide +kernel
theorem fct2c : ∀ j, j < 26 → ∀ m, m < 5 → ∀ g, g < 3 → isLet (nI (97 + j)) = 1 → leN (nI (97 + j)) (nI m) (nI g) = hoN (nI (97 + j)) (nI m) ∧ pRd (nI (97 + j)) (nI m) (nI g) (nI m) = nI (97 + j) := by decide +kernel
theorem fct2 (j : Nat) (hj : j < 26) (m : Nat) (hm : m < 5) (g : Nat) (hg : g < 10) (hl : isLet (nI (97 + j)) = 1) : pLef (nI (97 + j)) (nI m) (nI g) = nI (leN (nI (97 + j)) (nI m) (nI g)) ∧ leN (nI (97 + j)) (nI m) (nI g) ≤ hoN (nI (97 + j)) (nI m) ∧ hoN (nI (97 + j)) (nI m) ≤ leN (nI (97 + j)) (nI m) (nI g) + vN (nI (97 + j)) * (g / 3) ∧ (g < 3 → leN (nI (97 + j)) (nI m) (nI g) = hoN (nI (97 + j)) (nI m) ∧ pRd (nI (97 + j)) (nI m) (nI g) (nI m) = nI (97 + j)) :=
  ⟨(fct2a j hj m hm g hg hl).1, (fct2a j hj m hm g hg hl).2, fct2b j hj m hm g hg hl, fun h3 => fct2c j hj m hm g h3 hl⟩
theorem fct3 : ∀ l, l < 6 → ∀ m, m < 5 → ∀ m', m' < 5 → 1 ≤ l → vowFor (m5 (nI l - 1 - nI m)) = vowFor (m5 (nI l - 1 - nI m')) → m = m' := by decide +kernel
theorem vowFor_q (x : Int32) : ¬ vowFor x = 63 := by
  unfold vowFor
  split
  · decide
  · split
    · decide
    · split
      · decide
      · split
        · decide
        · decide
section HNUM
variable {A : Nat → Int32} {t h : Nat}
theorem a_hol (hp : ¬ aH A t h 0 = -1) (k : Nat) : aHoles A t h k = pHol (aL A t k) (aH A t h 0) := by
  unfold aHoles pHol
  rw [if_neg hp]
theorem a_lef (hp : ¬ aH A t h 0 = -1) (k : Nat) (g : Int32) : aLeft A t h k g = pLef (aL A t k) (aH A t h 0) g := by
  unfold aLeft pLef
  rw [a_hol hp]
theorem a_rd (hp : ¬ aH A t h 0 = -1) (k : Nat) (g m' : Int32) : aRead A t h k g m' = pRd (aL A t k) (aH A t h 0) g m' := by
  unfold aRead pRd
  rw [a_lef hp]
/-- a ticket's word -/
theorem tick_word (hT : WTk A t) : aT A t 0 = nI (aLen A t) ∧ 2 ≤ aLen A t ∧ aLen A t ≤ 6 ∧ (∀ k, k < aLen A t → isLet (aL A t k) = 1) ∧ (∀ k, aLen A t ≤ k → k < 6 → aL A t k = 0) ∧ aVowels A t = nI (sm (fun k => vN (aL A t k)) (aLen A t)) := by
  obtain ⟨⟨n, h1, h2, h3, h4, h5⟩, -⟩ := hT
  have e : aLen A t = n := by
    unfold aLen
    rw [h3]
    exact nI_clamp (by omega)
  rw [e]
  refine ⟨h3, h1, h2, h4, h5, ?_⟩
  unfold aVowels
  rw [e]
  refine cnt_sm n (fun k hk => ?_)
  unfold vN
  split
  · rfl
  · rfl
theorem let_26 {c : Int32} (h : isLet c = 1) : ∃ j, j < 26 ∧ c = nI (97 + j) := by
  obtain ⟨j, h1, h2, h3⟩ := isLet_n h
  exact ⟨j - 97, by omega, by rw [h3, show 97 + (j - 97) = j by omega]⟩
theorem vN_le (c : Int32) : vN c ≤ 1 := by
  unfold vN
  split
  · exact Nat.zero_le 1
  · exact Nat.le_refl 1
theorem vow_le (hT : WTk A t) : sm (fun k => vN (aL A t k)) (aLen A t) ≤ aLen A t := by
  have := sm_le (f := fun k => vN (aL A t k)) (g := fun _ => 1) (aLen A t) (fun k _ => vN_le _)
  rw [sm_const] at this
  omega
/-- the numbers of a punched half -/
theorem half_mg (hT : WTk A t) (hh : h < 2) (hp : ¬ aH A t h 0 = -1) : ∃ m g, m < 5 ∧ g < 10 ∧ aH A t h 0 = nI m ∧ aH A t h 1 = nI g := by
  obtain ⟨-, -, -, -, -, -, hH, -⟩ := hT
  obtain ⟨hm, ⟨g, g1, g2⟩, -⟩ := hH h hh
  obtain ⟨m, m1, m2⟩ := hm.resolve_left hp
  exact ⟨m, g, m1, g1, m2, g2⟩
def nV (A : Nat → Int32) (t : Nat) : Nat := sm (fun k => vN (aL A t k)) (aLen A t)
def nHo (A : Nat → Int32) (t h : Nat) : Nat := sm (fun k => hoN (aL A t k) (aH A t h 0)) (aLen A t)
def nLe (A : Nat → Int32) (t h : Nat) : Nat := sm (fun k => leN (aL A t k) (aH A t h 0) (aH A t h 1)) (aLen A t)
def rI (A : Nat → Int32) (t h : Nat) (g m : Int32) (k : Nat) : Nat := if aRead A t h k g m = aL A t k then 1 else 0
def nRi (A : Nat → Int32) (t h : Nat) (g m : Int32) : Nat := sm (rI A t h g m) (aLen A t)
theorem rI_le (g m : Int32) (k : Nat) : rI A t h g m k ≤ 1 := by
  unfold rI
  split
  · exact Nat.le_refl 1
  · exact Nat.zero_le 1
theorem right_n (g m : Int32) : aRight A t h g m = nI (nRi A t h g m) ∧ nRi A t h g m ≤ aLen A t ∧ (nRi A t h g m = aLen A t ↔ ∀ k, k < aLen A t → aRead A t h k g m = aL A t k) := by
  have h1 : sm (fun _ => 1) (aLen A t) = aLen A t := by
    rw [sm_const]
    omega
  have h2 := sm_le (f := rI A t h g m) (g := fun _ => 1) (aLen A t) (fun k _ => rI_le g m k)
  rw [h1] at h2
  refine ⟨?_, h2, fun e k hk => ?_, fun e => ?_⟩
  · refine cnt_sm _ (fun k hk => ?_)
    unfold rI
    split
    · rfl
    · rfl
  · have h3 := sm_eq (f := rI A t h g m) (g := fun _ => 1) (aLen A t) (fun k _ => rI_le g m k) (by rw [h1]; exact e) k hk
    unfold rI at h3
    by_cases z : aRead A t h k g m = aL A t k
    · exact z
    · rw [if_neg z] at h3
      exact absurd h3 (by decide)
  · unfold nRi
    rw [← h1]
    rw [show sm (rI A t h g m) (sm (fun _ => 1) (aLen A t)) = sm (rI A t h g m) (aLen A t) from congrArg _ h1]
    refine sm_congr _ (fun k hk => ?_)
    unfold rI
    rw [if_pos (e k hk)]
/-- the numbers of a punched half -/
theorem half_n (hT : WTk A t) (hh : h < 2) (hp : ¬ aH A t h 0 = -1) {g : Nat} (hg : aH A t h 1 = nI g) (h10 : g < 10) : aHolesOf A t h = nI (nHo A t h) ∧ aLeftOf A t h = nI (nLe A t h) ∧ nV A t ≤ nHo A t h ∧ nHo A t h ≤ nV A t * 5 ∧ nLe A t h ≤ nHo A t h ∧ nHo A t h ≤ nLe A t h + nV A t * (g / 3) ∧ (g < 3 → nLe A t h = nHo A t h) ∧ aLen A t ≤ nRi A t h (aH A t h 1) (aH A t h 0) + nV A t ∧ (g < 3 → nRi A t h (aH A t h 1) (aH A t h 0) = aLen A t) := by
  obtain ⟨w1, w2, w3, w4, w5, w6⟩ := tick_word hT
  obtain ⟨m, g', m1, g1, m2, g2⟩ := half_mg hT hh hp
  have f1 : ∀ k, k < aLen A t → pHol (aL A t k) (aH A t h 0) = nI (hoN (aL A t k) (aH A t h 0)) ∧ hoN (aL A t k) (aH A t h 0) ≤ vN (aL A t k) * 5 ∧ vN (aL A t k) ≤ hoN (aL A t k) (aH A t h 0) := fun k hk => by
    obtain ⟨j, j1, j2⟩ := let_26 (w4 k hk)
    have h9 := w4 k hk
    rw [j2] at h9 ⊢
    rw [m2]
    exact fct1 j j1 m m1 h9
  have f2 : ∀ k, k < aLen A t → pLef (aL A t k) (aH A t h 0) (aH A t h 1) = nI (leN (aL A t k) (aH A t h 0) (aH A t h 1)) ∧ leN (aL A t k) (aH A t h 0) (aH A t h 1) ≤ hoN (aL A t k) (aH A t h 0) ∧ hoN (aL A t k) (aH A t h 0) ≤ leN (aL A t k) (aH A t h 0) (aH A t h 1) + vN (aL A t k) * (g / 3) ∧ (g < 3 → leN (aL A t k) (aH A t h 0) (aH A t h 1) = hoN (aL A t k) (aH A t h 0) ∧ pRd (aL A t k) (aH A t h 0) (aH A t h 1) (aH A t h 0) = aL A t k) := fun k hk => by
    obtain ⟨j, j1, j2⟩ := let_26 (w4 k hk)
    have h9 := w4 k hk
    rw [j2] at h9 ⊢
    rw [m2, hg]
    exact fct2 j j1 m m1 g h10 h9
  refine ⟨?_, ?_, ?_, ?_, ?_, ?_, fun h3 => ?_, ?_, fun h3 => ?_⟩
  · refine cnt_sm _ (fun k hk => ?_)
    rw [a_hol hp]
    exact (f1 k hk).1
  · refine cnt_sm _ (fun k hk => ?_)
    rw [a_lef hp]
    exact (f2 k hk).1
  · exact sm_le _ (fun k hk => (f1 k hk).2.2)
  · have := sm_le (f := fun k => hoN (aL A t k) (aH A t h 0)) (g := fun k => vN (aL A t k) * 5) (aLen A t) (fun k hk => (f1 k hk).2.1)
    rw [sm_mul] at this
    exact this
  · exact sm_le _ (fun k hk => (f2 k hk).2.1)
  · have := sm_le (f := fun k => hoN (aL A t k) (aH A t h 0)) (g := fun k => leN (aL A t k) (aH A t h 0) (aH A t h 1) + vN (aL A t k) * (g / 3)) (aLen A t) (fun k hk => (f2 k hk).2.2.1)
    rw [sm_add, sm_mul] at this
    exact this
  · exact sm_congr _ (fun k hk => ((f2 k hk).2.2.2 h3).1)
  · have := sm_le (f := fun _ => 1) (g := fun k => rI A t h (aH A t h 1) (aH A t h 0) k + vN (aL A t k)) (aLen A t) (fun k hk => by
      by_cases v : vow (aL A t k) = -1
      · have e : aRead A t h k (aH A t h 1) (aH A t h 0) = aL A t k := if_pos v
        show 1 ≤ rI A t h (aH A t h 1) (aH A t h 0) k + vN (aL A t k)
        unfold rI
        rw [if_pos e]
        omega
      · show 1 ≤ rI A t h (aH A t h 1) (aH A t h 0) k + vN (aL A t k)
        unfold vN
        rw [if_neg v]
        omega)
    rw [sm_const, sm_add] at this
    unfold nRi nV
    omega
  · refine (right_n _ _).2.2.mpr (fun k hk => ?_)
    rw [a_rd hp]
    exact ((f2 k hk).2.2.2 h3).2
/-- a letter read under a mood is no '?' under another -/
theorem read_q (hp : ¬ aH A t h 0 = -1) {k : Nat} {g m m' : Int32} (hl : isLet (aL A t k) = 1) (hr : aRead A t h k g m = aL A t k) : ¬ aRead A t h k g m' = 63 := by
  have hc : ¬ aL A t k = 63 := fun z => by
    rw [z] at hl
    exact absurd hl (by decide +kernel)
  rw [a_rd hp] at hr ⊢
  unfold pRd at hr ⊢
  by_cases v : vow (aL A t k) = -1
  · rw [if_pos v]
    exact hc
  · rw [if_neg v] at hr ⊢
    by_cases l : pLef (aL A t k) (aH A t h 0) g = 0
    · rw [if_pos l] at hr
      exact absurd hr.symm hc
    · rw [if_neg l]
      exact vowFor_q _
/-- a word with a vowel is read under one mood alone -/
theorem mood_one (hT : WTk A t) (hh : h < 2) (hp : ¬ aH A t h 0 = -1) (hv : 1 ≤ nV A t) {g m m' : Nat} (h10 : g < 10) (h5 : m < 5) (h5' : m' < 5) (h1 : nRi A t h (nI g) (nI m) = aLen A t) (h2 : nRi A t h (nI g) (nI m') = aLen A t) : m = m' := by
  obtain ⟨w1, w2, w3, w4, w5, w6⟩ := tick_word hT
  obtain ⟨k, k1, k2⟩ := sm_pos _ hv
  have e1 := (right_n _ _).2.2.mp h1 k k1
  have e2 := (right_n _ _).2.2.mp h2 k k1
  rw [a_rd hp] at e1 e2
  obtain ⟨m0, g0, m1, g1, m2, g2⟩ := half_mg hT hh hp
  obtain ⟨j, j1, j2⟩ := let_26 (w4 k k1)
  have hl := w4 k k1
  have f0 := fct1 j j1 m0 m1 (by rw [← j2]; exact hl)
  have f := fct2 j j1 m0 m1 g h10 (by rw [← j2]; exact hl)
  rw [← j2, ← m2] at f f0
  have v : ¬ vow (aL A t k) = -1 := fun z => by
    have : vN (aL A t k) = 0 := if_pos z
    omega
  have v1 : vN (aL A t k) = 1 := if_neg v
  unfold pRd at e1 e2
  rw [if_neg v] at e1 e2
  by_cases l : pLef (aL A t k) (aH A t h 0) (nI g) = 0
  · rw [if_pos l] at e1
    rw [← e1] at hl
    exact absurd hl (by decide +kernel)
  · rw [if_neg l] at e1 e2
    have l1 : 1 ≤ leN (aL A t k) (aH A t h 0) (nI g) := by
      by_cases z : leN (aL A t k) (aH A t h 0) (nI g) = 0
      · rw [z] at f
        exact absurd f.1 l
      · omega
    rw [f.1] at e1 e2
    exact fct3 _ (by omega) m h5 m' h5' l1 (e1.trans e2.symm)
end HNUM
