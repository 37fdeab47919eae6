/-! read of any text, what it leaves -/
section READ
variable {w : FW} {x n b L m : Nat} {A H S : Nat → Int32} {sv : Int32} {f : Nat → Int32}
def tA (f : Nat → Int32) (L : Nat) : Nat → Int32 := fun j => tO f L (psN f L (j / 4)) (enN f L (j / 4)) (j / 4) j
theorem OG_all (h2 : ∀ i, i < m → okO f L i) (h3 : ∀ i, i ≤ m → 2 * i ≤ psN f L i ∧ psN f L i ≤ L) (hok : eoo f L (psN f L m) = .inl L) : ∀ k, k ≤ m → OG f L (psN f L k) (enN f L k) (tA f L) k := by
  intro k hk
  have he : eoo f L (psN f L k) = .inl (enN f L k) := by
    by_cases c : k = m
    · subst c
      have : enN f L k = L := by
        unfold enN
        rw [hok]
        rfl
      rw [this]
      exact hok
    · exact (h2 k (by omega)).1
  have hl := eoo_le (f := f) (h3 k hk).2
  have hp : psN f L k < L := by
    have h1 := hl.2.2 _ he
    have h2 := hl.2.1
    unfold enN at h1
    omega
  refine (OG_ex hp he k).to (fun j hj => ?_)
  unfold tA
  rw [show (4 * k + j) / 4 = k by omega]
theorem iv_le {c : Nat} (hI : IV b A) (h : b ≤ c) : IV c A := by
  obtain ⟨i1, ⟨c', c1, c2, c3⟩, ⟨d, f, d1, d2, d3, d4⟩, ⟨g, g1, g2, g3⟩⟩ := hI
  exact ⟨i1, ⟨c', by omega, c2, c3⟩, ⟨d, f, by omega, d2, d3, d4⟩, ⟨g, by omega, g2, g3⟩⟩
theorem a_read (C : CR w x A n H sv S) (hI : IV b A) (hy : DB b A) (hb : b < 90000) (B : BU w x L f) (hfr : ∀ i, i < L → ∃ c, 32 ≤ c ∧ c ≤ 126 ∧ f i = nI c) : ∃ r w', F_L_read x w = some (r, w') ∧ (¬ r ≤ -74 ∧ (∃ A', CR w' x A' (if n = 8 then 8 else n + 1) (hPush n A H) sv S ∧ IV (b + 31) A' ∧ DB (b + 31) A') ∨ r ≤ -74 ∧ CR w' x A n H sv S) ∧ gI w' 408 x 0 = 0 ∧ w'.1 = w.1 := by
  have hA := C.2.2.1
  have h60 : L ≤ 60 := B.2.2.2.2.2.1
  obtain ⟨m, m1, m2, m3⟩ : ∃ m, m ≤ 30 ∧ ¬ okO f L m ∧ ∀ i, i < m → okO f L i := by
    rcases first_or (okO f L) 31 with h | ⟨j, j1, j2, j3⟩
    · have := okO_le 31 h
      omega
    · exact ⟨j, by omega, j2, j3⟩
  have h3 : ∀ i, i ≤ m → 2 * i ≤ psN f L i ∧ psN f L i ≤ L := fun i hi => okO_le i (fun k hk => m3 k (by omega))
  unfold F_L_read
  by_cases hok : eoo f L (psN f L m) = .inl L
  · have hg := OG_all m3 h3 hok
    obtain ⟨d, d1, d2⟩ := id hy
    have hW := sq_w hA hg d2 (by omega)
    rcases first_or (fun i => (sqR f L A i).1 = 0) (m + 1) with hz | ⟨u, u1, u2, u3⟩
    · obtain ⟨w', e, C', g8, -, -, k1, -⟩ := c_read_ok C B hfr m1 m2 m3 h3 hok hg (fun i hi => (hW i hi).1) (fun i hi => hz i (by omega)) (F := A) (fun _ _ => rfl)
      rw [fg_t C.1.1, e, Option.bind_some]
      have hv := sq_iv hI (fun i hi => (hW i hi).1) hg (fun i hi => hz i (by omega)) (m + 1) (Nat.le_refl _)
      obtain ⟨-, d', d3, d4⟩ := hW (m + 1) (Nat.le_refl _)
      refine ⟨_, _, rfl, Or.inl ⟨gt74 (by omega), _, C', ?_, d', by omega, d4⟩, g8, k1⟩
      exact iv_le hv (by omega)
    · obtain ⟨w', e, C', g8, -, -, -, -, -, k1, -⟩ := c_read_no C B hfr m1 m2 m3 h3 hok hg (fun i hi => (hW i hi).1) (u := u) (by omega) u3 u2
      rw [fg_t C.1.1, e, Option.bind_some]
      exact ⟨_, _, rfl, Or.inr ⟨by decide, C'⟩, g8, k1⟩
  · have e := c_read_bad C B m1 m2 m3 h3 hok
    rw [fg_t C.1.1, e, Option.bind_some]
    refine ⟨_, _, rfl, Or.inr ⟨by decide, (C.nm (c := 408) 0 (by omega) (by omega) (by omega)).nm (c := 413) _ (by omega) (by omega) (by omega)⟩, ?_, rfl⟩
    rw [gI_n (by omega)]
    exact gI_s _ _ _ _ _
end READ
