/-! What the law's reads leaves -/
section RDS
variable {w : FW} {x n b : Nat} {A H S : Nat → Int32} {sv : Int32} {t : List Int32}
def tL (t : List Int32) : Prop := ∀ i, i < t.length → ∃ c, 32 ≤ c ∧ c ≤ 126 ∧ t.getD i 0 = nI c
theorem pk_1 {k c0 : Nat} (h0 : t.getD (k + 0) 0 = nI c0) (b0 : c0 < 127) : pkN t k 1 = nI c0 := by
  show ((0 : Int32) <<< (8 : Int32)) ||| t.getD (k + 0) 0 = _
  rw [h0]
  have h := or_8 0 c0 (by omega) (by decide)
  rw [Nat.zero_mul, Nat.zero_add] at h
  exact h
theorem pk_2 {k c0 c1 : Nat} (h0 : t.getD (k + 0) 0 = nI c0) (h1 : t.getD (k + 1) 0 = nI c1) (b0 : c0 < 127) (b1 : c1 < 127) : pkN t k 2 = nI (c0 * 256 + c1) := by
  show (pkN t k 1 <<< (8 : Int32)) ||| t.getD (k + 1) 0 = _
  rw [pk_1 h0 b0, h1]
  exact or_8 c0 c1 (by omega) (by omega)
theorem pk_3 {k c0 c1 c2 : Nat} (h0 : t.getD (k + 0) 0 = nI c0) (h1 : t.getD (k + 1) 0 = nI c1) (h2 : t.getD (k + 2) 0 = nI c2) (b0 : c0 < 127) (b1 : c1 < 127) (b2 : c2 < 127) : pkN t k 3 = nI ((c0 * 256 + c1) * 256 + c2) := by
  show (pkN t k 2 <<< (8 : Int32)) ||| t.getD (k + 2) 0 = _
  rw [pk_2 h0 h1 b0 b1, h2]
  exact or_8 _ c2 (by omega) (by omega)
theorem pk_4 {k c0 c1 c2 c3 : Nat} (h0 : t.getD (k + 0) 0 = nI c0) (h1 : t.getD (k + 1) 0 = nI c1) (h2 : t.getD (k + 2) 0 = nI c2) (h3 : t.getD (k + 3) 0 = nI c3) (b0 : c0 < 127) (b1 : c1 < 127) (b2 : c2 < 127) (b3 : c3 < 127) : pkN t k 4 = nI (((c0 * 256 + c1) * 256 + c2) * 256 + c3) := by
  show (pkN t k 3 <<< (8 : Int32)) ||| t.getD (k + 3) 0 = _
  rw [pk_3 h0 h1 h2 b0 b1 b2, h3]
  exact or_8 _ c3 (by omega) (by omega)
theorem up_id {f : Nat → Int32} {L : Nat} {v : Int32} (h : f L = v) : up f L v = f := by
  funext i
  unfold up
  by_cases e : i = L
  · rw [if_pos e, e, h]
  · rw [if_neg e]
theorem rd_M (hl : tL t) {k M : Nat} (h : k + M ≤ t.length) (h0 : 0 < M) (h4 : M ≤ 4) : (∀ j, j < 4 → ¬ apBad (pkN t k M) j) ∧ cn (pkN t k M) 4 = M ∧ apF (pkN t k M) k (fun i => t.getD i 0) 4 = (fun i => t.getD i 0) := by
  have L : ∀ i, i < M → ∃ c, 32 ≤ c ∧ c < 127 ∧ t.getD (k + i) 0 = nI c := fun i hi => by
    obtain ⟨c, c1, c2, c3⟩ := hl (k + i) (by omega)
    exact ⟨c, c1, by omega, c3⟩
  have U : ∀ (i c : Nat), t.getD (k + i) 0 = nI c → up (fun i => t.getD i 0) (k + i) (nI c) = (fun i => t.getD i 0) := fun i c e => up_id e
  rcases (show M = 1 ∨ M = 2 ∨ M = 3 ∨ M = 4 by omega) with rfl | rfl | rfl | rfl
  · obtain ⟨c0, a0, b0, e0⟩ := L 0 (by omega)
    have hp := ap_1 (L := k) (f := fun i => t.getD i 0) (a := pkN t k 1) (by rw [pk_1 e0 b0]; exact apC_1 b0) ⟨a0, b0⟩
    refine ⟨hp.1, hp.2.1, hp.2.2.trans ?_⟩
    rw [U 0 c0 e0]
  · obtain ⟨c0, a0, b0, e0⟩ := L 0 (by omega)
    obtain ⟨c1, a1, b1, e1⟩ := L 1 (by omega)
    have hp := ap_2 (L := k) (f := fun i => t.getD i 0) (a := pkN t k 2) (by rw [pk_2 e0 e1 b0 b1]; exact apC_2 b0 b1) ⟨a0, b0⟩ ⟨a1, b1⟩
    refine ⟨hp.1, hp.2.1, hp.2.2.trans ?_⟩
    rw [U 0 c0 e0, U 1 c1 e1]
  · obtain ⟨c0, a0, b0, e0⟩ := L 0 (by omega)
    obtain ⟨c1, a1, b1, e1⟩ := L 1 (by omega)
    obtain ⟨c2, a2, b2, e2⟩ := L 2 (by omega)
    have hp := ap_3 (L := k) (f := fun i => t.getD i 0) (a := pkN t k 3) (by rw [pk_3 e0 e1 e2 b0 b1 b2]; exact apC_3 b0 b1 b2) ⟨a0, b0⟩ ⟨a1, b1⟩ ⟨a2, b2⟩
    refine ⟨hp.1, hp.2.1, hp.2.2.trans ?_⟩
    rw [U 0 c0 e0, U 1 c1 e1, U 2 c2 e2]
  · obtain ⟨c0, a0, b0, e0⟩ := L 0 (by omega)
    obtain ⟨c1, a1, b1, e1⟩ := L 1 (by omega)
    obtain ⟨c2, a2, b2, e2⟩ := L 2 (by omega)
    obtain ⟨c3, a3, b3, e3⟩ := L 3 (by omega)
    have hp := ap_4 (L := k) (f := fun i => t.getD i 0) (a := pkN t k 4) (by rw [pk_4 e0 e1 e2 e3 b0 b1 b2 b3]; exact apC_4 b0 b1 b2 b3) ⟨a0, b0⟩ ⟨a1, b1⟩ ⟨a2, b2⟩ ⟨a3, b3⟩
    refine ⟨hp.1, hp.2.1, hp.2.2.trans ?_⟩
    rw [U 0 c0 e0, U 1 c1 e1, U 2 c2 e2, U 3 c3 e3]
theorem rd_sem (hl : tL t) (h60 : t.length ≤ 60) : ∀ c k w, CR w x A n H sv S → gI w 408 x 0 = nI k → (∀ i, i < k → gI w 600 (x + 142) i = t.getD i 0) → k ≤ t.length → c = (t.length - k + 3) / 4 → ∃ w1, RDn x t c k w w1 ∧ CR w1 x A n H sv S ∧ gI w1 408 x 0 = nI t.length ∧ (∀ i, i < t.length → gI w1 600 (x + 142) i = t.getD i 0) ∧ w1.1 = w.1 := by
  intro c
  induction c with
  | zero =>
    intro k w C h8 hf hk hc
    have hk2 : k = t.length := by omega
    subst hk2
    exact ⟨w, ⟨Nat.le_refl _, rfl⟩, C, h8, hf, rfl⟩
  | succ c ih =>
    intro k w C h8 hf hk hc
    have hlt : k < t.length := by omega
    obtain ⟨M, hM⟩ : ∃ M, M = if t.length - k < 4 then t.length - k else 4 := ⟨_, rfl⟩
    have hM4 : 0 < M ∧ M ≤ 4 ∧ k + M ≤ t.length ∧ (M < 4 → k + M = t.length) := by
      by_cases c9 : t.length - k < 4
      · rw [if_pos c9] at hM
        omega
      · rw [if_neg c9] at hM
        omega
    obtain ⟨w', e, C', g8, gf, k1⟩ := a_app C h8 hf (rd_M hl hM4.2.2.1 hM4.1 hM4.2.1) (by omega)
    by_cases h4 : M = 4
    · obtain ⟨w1, r1, r2, r3, r4, r5⟩ := ih (k + 4) w' C' (by rw [h4] at g8; exact g8) (fun i hi => gf i (by omega)) (by omega) (by omega)
      exact ⟨w1, ⟨hlt, nI (k + M), w', (by rw [← hM]; exact e), r1⟩, r2, r3, r4, r5.trans k1⟩
    · have hc0 : c = 0 := by omega
      subst hc0
      have h9 := hM4.2.2.2 (by omega)
      exact ⟨w', ⟨hlt, nI (k + M), w', (by rw [← hM]; exact e), ⟨by omega, rfl⟩⟩, C', by rw [← h9]; exact g8, fun i hi => gf i (by omega), k1⟩
theorem a_reads (C : CR w x A n H sv S) (hI : IV b A) (hy : DB b A) (hb : b < 90000) (h8 : gI w 408 x 0 = 0) (hl : tL t) (h60 : t.length ≤ 57) : ∃ c w1 r w', c ≤ 15 ∧ RDn x t c 0 w w1 ∧ F_L_read x w1 = some (r, w') ∧ (¬ r ≤ -74 ∧ (∃ A', CR w' x A' (if n = 8 then 8 else n + 1) (hPush n A H) sv S ∧ IV (b + 31) A' ∧ DB (b + 31) A') ∨ r ≤ -74 ∧ CR w' x A n H sv S) ∧ gI w' 408 x 0 = 0 ∧ w'.1 = w.1 := by
  obtain ⟨w1, r1, r2, r3, r4, r5⟩ := rd_sem hl (by omega) ((t.length - 0 + 3) / 4) 0 w C (by rw [h8]; exact nI_0.symm) (fun i hi => absurd hi (Nat.not_lt_zero i)) (Nat.zero_le _) rfl
  have B := bu_of (f := fun i => t.getD i 0) r2 r3 (by omega) r4 hl
  obtain ⟨r, w', e, h1, h2, h3⟩ := a_read r2 hI hy hb B hl
  exact ⟨_, w1, r, w', by omega, r1, e, h1, h2, h3.trans r5⟩
end RDS
