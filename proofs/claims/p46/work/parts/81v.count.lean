/-! Counting -/
theorem sm_0 : ∀ n, sm (fun _ => 0) n = 0 := fun n => by rw [sm_const, Nat.mul_zero]
theorem sm_swap (f : Nat → Nat → Nat) (N : Nat) : ∀ M, sm (fun t => sm (fun r => f t r) N) M = sm (fun r => sm (fun t => f t r) M) N := by
  intro M
  induction M with
  | zero =>
    show 0 = sm (fun r => 0) N
    rw [sm_0]
  | succ M ih =>
    rw [sm_s, ih]
    exact (sm_add (fun r => sm (fun t => f t r) M) (fun r => f M r) N).symm
theorem sm_mulL (c : Nat) (f : Nat → Nat) (n : Nat) : sm (fun k => c * f k) n = c * sm f n := by
  rw [Nat.mul_comm, ← sm_mul]
  exact sm_congr n (fun k _ => Nat.mul_comm _ _)
theorem sm_z {f : Nat → Nat} {n : Nat} (h : sm f n = 0) : ∀ k, k < n → f k = 0 := fun k hk => by
  by_cases z : f k = 0
  · exact z
  · exact (sm_eq (f := fun _ => 0) (g := f) n (fun _ _ => Nat.zero_le _) (by rw [sm_0, h]) k hk).symm
/-- one place alone -/
theorem sm_one {f : Nat → Nat} {n r : Nat} (hr : r < n) (h1 : f r = 1) (h0 : ∀ k, k < n → ¬ k = r → f k = 0) : sm f n = 1 := by
  induction n with
  | zero => omega
  | succ n ih =>
    rw [sm_s]
    by_cases z : r = n
    · subst z
      rw [h1, sm_congr r (g := fun _ => 0) (fun k hk => h0 k (by omega) (by omega)), sm_0]
    · rw [ih (by omega) (fun k hk => h0 k (by omega)), h0 n (by omega) (fun y => z y.symm)]
theorem sm_div (s : Nat) (h1 : 1 ≤ s) (h8 : s ≤ 8) : s * (840 / s) = 840 := by
  have : s = 1 ∨ s = 2 ∨ s = 3 ∨ s = 4 ∨ s = 5 ∨ s = 6 ∨ s = 7 ∨ s = 8 := by omega
  rcases this with rfl | rfl | rfl | rfl | rfl | rfl | rfl | rfl <;> rfl
section SHARE
variable {e : Nat → Nat → Nat} {N : Nat}
/-- the first of its like -/
def fst1 (e : Nat → Nat → Nat) (r : Nat) : Nat := if sm (e r) r = 0 then 1 else 0
theorem fst_one (h01 : ∀ a b, e a b = 0 ∨ e a b = 1) (hr : ∀ a, e a a = 1) (hs : ∀ a b, e a b = 1 → e b a = 1) (ht : ∀ a b c, e a b = 1 → e b c = 1 → e a c = 1) {t : Nat} (htN : t < N) : sm (fun r => fst1 e r * e t r) N = 1 := by
  have ex : ∀ n, ∀ u, u ≤ n → u < N → e t u = 1 → ∃ r, r ≤ u ∧ fst1 e r = 1 ∧ e t r = 1 := by
    intro n
    induction n with
    | zero =>
      intro u hu _ h
      obtain rfl : u = 0 := by omega
      exact ⟨0, Nat.le_refl _, if_pos rfl, h⟩
    | succ n ih =>
      intro u hu huN h
      by_cases z : sm (e u) u = 0
      · exact ⟨u, Nat.le_refl _, if_pos z, h⟩
      · obtain ⟨k, k1, k2⟩ := sm_pos (f := e u) u (by omega)
        have k3 : e u k = 1 := (h01 u k).resolve_left (by omega)
        obtain ⟨r, r1, r2, r3⟩ := ih k (by omega) (by omega) (ht t u k h k3)
        exact ⟨r, by omega, r2, r3⟩
  obtain ⟨r, r1, r2, r3⟩ := ex t t (Nat.le_refl _) htN (hr t)
  refine sm_one (r := r) (by omega) (by rw [r2, r3]) (fun k hk hne => ?_)
  rcases h01 t k with z | z
  · rw [z, Nat.mul_zero]
  · have hkr : e k r = 1 := ht k t r (hs t k z) r3
    have hf : fst1 e k = 0 := by
      unfold fst1
      by_cases y : sm (e k) k = 0
      · exfalso
        by_cases q : r < k
        · have := sm_z y r q
          omega
        · have y2 : sm (e r) r = 0 := by
            unfold fst1 at r2
            by_cases y3 : sm (e r) r = 0
            · exact y3
            · rw [if_neg y3] at r2
              omega
          have := sm_z y2 k (by omega)
          have := hs k r hkr
          omega
      · exact if_neg y
    rw [hf, Nat.zero_mul]
theorem share_sum (h01 : ∀ a b, e a b = 0 ∨ e a b = 1) (hr : ∀ a, e a a = 1) (hs : ∀ a b, e a b = 1 → e b a = 1) (ht : ∀ a b c, e a b = 1 → e b c = 1 → e a c = 1) (h8 : N ≤ 8) : sm (fun t => 840 / sm (e t) N) N = 840 * sm (fst1 e) N := by
  have hsN : ∀ t, t < N → 1 ≤ sm (e t) N ∧ sm (e t) N ≤ 8 := fun t htN => by
    refine ⟨?_, ?_⟩
    · by_cases z : sm (e t) N = 0
      · have := sm_z z t htN
        rw [hr] at this
        omega
      · omega
    · have := sm_le (f := e t) (g := fun _ => 1) N (fun k _ => by rcases h01 t k with z | z <;> omega)
      rw [sm_const] at this
      omega
  have hsame : ∀ t r, e t r = 1 → sm (e t) N = sm (e r) N := fun t r h => sm_congr N (fun k _ => by
    rcases h01 t k with z | z
    · rcases h01 r k with y | y
      · omega
      · have := ht t r k h y
        omega
    · have := ht r t k (hs t r h) z
      omega)
  have e1 : sm (fun t => 840 / sm (e t) N) N = sm (fun t => sm (fun r => fst1 e r * e t r * (840 / sm (e r) N)) N) N := sm_congr N (fun t htN => by
    have h1 : sm (fun r => fst1 e r * e t r * (840 / sm (e r) N)) N = sm (fun r => fst1 e r * e t r * (840 / sm (e t) N)) N := sm_congr N (fun r _ => by
      rcases h01 t r with z | z
      · rw [z, Nat.mul_zero, Nat.zero_mul, Nat.zero_mul]
      · rw [hsame t r z])
    rw [h1, sm_mul, fst_one h01 hr hs ht htN, Nat.one_mul])
  rw [e1, sm_swap, ← sm_mulL]
  refine sm_congr N (fun r hrN => ?_)
  have h2 : sm (fun t => fst1 e r * e t r * (840 / sm (e r) N)) N = fst1 e r * sm (e r) N * (840 / sm (e r) N) := by
    rw [sm_mul, sm_mulL]
    congr 2
    exact sm_congr N (fun k _ => by
      rcases h01 k r with z | z
      · rcases h01 r k with y | y
        · omega
        · have := hs r k y
          omega
      · have := hs k r z
        omega)
  rw [h2, Nat.mul_assoc, sm_div _ (hsN r hrN).1 (hsN r hrN).2, Nat.mul_comm]
end SHARE
section RANK
variable {b : Nat → Nat → Nat} {N : Nat}
/-- each place below N is one's -/
theorem onto {f : Nat → Nat} (h1 : ∀ i, i < N → f i < N) (h2 : ∀ i j, i < N → j < N → f i = f j → i = j) : ∀ p, p < N → ∃ i, i < N ∧ f i = p := by
  have hle : ∀ p, p < N → sm (fun i => if f i = p then 1 else 0) N ≤ 1 := fun p _ => by
    by_cases z : sm (fun i => if f i = p then 1 else 0) N = 0
    · omega
    · obtain ⟨k, k1, k2⟩ := sm_pos (f := fun i => if f i = p then 1 else 0) N (by omega)
      have k3 : f k = p := by
        by_cases y : f k = p
        · exact y
        · have k2' : 1 ≤ (if f k = p then 1 else 0) := k2
          rw [if_neg y] at k2'
          omega
      exact Nat.le_of_eq (sm_one k1 (if_pos k3) (fun i hi hne => if_neg (fun y => hne (h2 i k hi k1 (y.trans k3.symm)))))
  have htot : sm (fun p => sm (fun i => if f i = p then 1 else 0) N) N = sm (fun _ => 1) N := by
    rw [← sm_swap (fun i p => if f i = p then 1 else 0)]
    exact sm_congr N (fun i hi => sm_one (f := fun p => if f i = p then 1 else 0) (h1 i hi) (if_pos rfl) (fun k _ hne => if_neg (fun y => hne y.symm)))
  intro p hp
  have := sm_eq N hle htot p hp
  obtain ⟨k, k1, k2⟩ := sm_pos (f := fun i => if f i = p then 1 else 0) N (by omega)
  refine ⟨k, k1, ?_⟩
  by_cases y : f k = p
  · exact y
  · have k2' : 1 ≤ (if f k = p then 1 else 0) := k2
    rw [if_neg y] at k2'
    omega
/-- the ranks of a strict order: b u t = 1 where u is ahead of t -/
theorem rank_lt (h01 : ∀ u t, b u t = 0 ∨ b u t = 1) (hi : ∀ t, b t t = 0) {t : Nat} (ht : t < N) : sm (fun u => b u t) N < N := by
  have h1 := sm_le (f := fun u => b u t) (g := fun _ => 1) N (fun k _ => by rcases h01 k t with z | z <;> omega)
  rw [sm_const] at h1
  by_cases z : sm (fun u => b u t) N = N
  · have := sm_eq (f := fun u => b u t) (g := fun _ => 1) N (fun k _ => by rcases h01 k t with z | z <;> omega) (by rw [sm_const, z, Nat.mul_one]) t ht
    rw [hi] at this
    omega
  · omega
theorem rank_mono (h01 : ∀ u t, b u t = 0 ∨ b u t = 1) (hi : ∀ t, b t t = 0) (hT : ∀ u s t, b u s = 1 → b s t = 1 → b u t = 1) {s t : Nat} (hs : s < N) (h : b s t = 1) : sm (fun u => b u s) N < sm (fun u => b u t) N := by
  have h1 := sm_le (f := fun u => b u s) (g := fun u => b u t) N (fun k _ => by
    rcases h01 k s with z | z
    · omega
    · have := hT k s t z h
      omega)
  by_cases z : sm (fun u => b u s) N = sm (fun u => b u t) N
  · have := sm_eq (f := fun u => b u s) (g := fun u => b u t) N (fun k _ => by
      rcases h01 k s with z | z
      · omega
      · have := hT k s t z h
        omega) z s hs
    rw [hi, h] at this
    omega
  · omega
theorem rank_ex (h01 : ∀ u t, b u t = 0 ∨ b u t = 1) (hi : ∀ t, b t t = 0) (hT : ∀ u s t, b u s = 1 → b s t = 1 → b u t = 1) (hc : ∀ s t, ¬ s = t → b s t = 1 ∨ b t s = 1) : ∀ p, p < N → ∃ t, t < N ∧ sm (fun u => b u t) N = p :=
  onto (fun i h => rank_lt h01 hi h) (fun i j h1 h2 he => Classical.byContradiction (fun hne => by
    rcases hc i j hne with z | z
    · have := rank_mono (N := N) h01 hi hT h1 z
      omega
    · have := rank_mono (N := N) h01 hi hT h2 z
      omega))
/-- the next rank stands behind -/
theorem rank_next (h01 : ∀ u t, b u t = 0 ∨ b u t = 1) (hi : ∀ t, b t t = 0) (hT : ∀ u s t, b u s = 1 → b s t = 1 → b u t = 1) (hc : ∀ s t, ¬ s = t → b s t = 1 ∨ b t s = 1) {s t : Nat} (ht : t < N) (h : sm (fun u => b u s) N < sm (fun u => b u t) N) : b s t = 1 := by
  by_cases e : s = t
  · subst e
    omega
  · rcases hc s t e with z | z
    · exact z
    · have := rank_mono (N := N) h01 hi hT ht z
      omega
end RANK
