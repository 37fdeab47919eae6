/-! The reference: its world by fields (fl) and rows (ar 1 .. ar 8: s, frame, saved, history, text, told, out, given) -/
def MB (w : FW) (M : Nat) : Prop := w.1 M = 6 ∧ w.1 (M + 1) = 11 ∧ w.1 (M + 2) = 11 ∧ w.1 (M + 3) = 11 ∧ w.1 (M + 4) = 11 ∧ w.1 (M + 5) = 11 ∧ w.1 (M + 6) = 11 ∧ w.1 (M + 7) = 11 ∧ w.1 (M + 8) = 11 ∧ w.2.1 (M + 1) = 177 ∧ w.2.1 (M + 2) = 177 ∧ w.2.1 (M + 3) = 177 ∧ w.2.1 (M + 4) = 1416 ∧ w.2.1 (M + 5) = 60 ∧ w.2.1 (M + 6) = 240 ∧ w.2.1 (M + 7) = 60 ∧ w.2.1 (M + 8) = 7 ∧ gR w 501 M 0 = M + 1 ∧ gR w 502 M 0 = M + 2 ∧ gR w 503 M 0 = M + 3 ∧ gR w 504 M 0 = M + 4 ∧ gR w 507 M 0 = M + 5 ∧ gR w 508 M 0 = M + 6 ∧ gR w 509 M 0 = M + 7 ∧ gR w 510 M 0 = M + 8
def mW (w : FW) (M : Nat) (fl : Nat → Int32) (ar : Nat → Nat → Int32) : FW := (w.1, w.2.1, fun c a i => if a = M then (if i = 0 then fl c else w.2.2.1 c a i) else if c = 601 ∧ M < a ∧ a ≤ M + 8 then ar (a - M) i else w.2.2.1 c a i, w.2.2.2)
theorem mW_self (w : FW) (M : Nat) : mW w M (fun c => gI w c M 0) (fun k i => gI w 601 (M + k) i) = w := by
  obtain ⟨k, l, f, r⟩ := w
  unfold mW gI
  congr 3
  funext c a i
  by_cases h : a = M
  · subst h
    by_cases hi : i = 0
    · subst hi; simp
    · simp [hi]
  · by_cases h2 : c = 601 ∧ M < a ∧ a ≤ M + 8
    · obtain ⟨rfl, h3, h4⟩ := h2
      simp [h, h3, h4, show M + (a - M) = a by omega]
    · simp [h, h2]
section MW
variable (w : FW) (M : Nat) (fl : Nat → Int32) (ar : Nat → Nat → Int32)
theorem mW_k : (mW w M fl ar).1 = w.1 := rfl
theorem mW_l : (mW w M fl ar).2.1 = w.2.1 := rfl
theorem mW_R (c a i : Nat) : gR (mW w M fl ar) c a i = gR w c a i := rfl
theorem mW_f (c : Nat) : gI (mW w M fl ar) c M 0 = fl c := by simp [gI, mW]
theorem mW_sf (c : Nat) (v : Int32) : sI (mW w M fl ar) c M 0 v = mW w M (up fl c v) ar := by
  unfold sI mW up
  congr 3
  funext c' a' i'
  by_cases h : a' = M
  · subst h
    by_cases hi : i' = 0
    · subst hi; by_cases hc : c' = c <;> simp [hc]
    · simp [hi]
  · simp [h]
theorem mW_ak {k : Nat} (h1 : 1 ≤ k) (h8 : k ≤ 8) (i : Nat) : gI (mW w M fl ar) 601 (M + k) i = ar k i := by
  have h2 : ¬ M + k = M := by omega
  have h3 : M < M + k := by omega
  simp [gI, mW, h3, h8]
  omega
theorem mW_sak {k : Nat} (h1 : 1 ≤ k) (h8 : k ≤ 8) (i : Nat) (v : Int32) : sI (mW w M fl ar) 601 (M + k) i v = mW w M fl (up ar k (up (ar k) i v)) := by
  unfold sI mW
  congr 3
  funext c' a' i'
  by_cases h : a' = M
  · have hk0 : ¬ k = 0 := by omega
    simp [h, hk0]
  · by_cases h2 : c' = 601 ∧ M < a' ∧ a' ≤ M + 8
    · obtain ⟨rfl, h3, h4⟩ := h2
      by_cases h5 : a' = M + k
      · subst h5
        by_cases h6 : i' = i
        · have hk0 : ¬ k = 0 := by omega
          simp [h, h3, h4, h6, up, hk0]
        · simp [h, h3, h4, h6, up]
      · have h6 : ¬ a' - M = k := by omega
        simp [h, h3, h4, h5, h6, up]
    · by_cases h5 : c' = 601 ∧ a' = M + k
      · exact absurd ⟨h5.1, by omega, by omega⟩ h2
      · by_cases h7 : c' = 601
        · have h8 : ¬ a' = M + k := fun z => h5 ⟨h7, z⟩
          simp [h, h8, h2]
        · simp [h, h7]
theorem mW_a1 (i : Nat) : gI (mW w M fl ar) 601 (M + 1) i = ar 1 i := mW_ak w M fl ar (by omega) (by omega) i
theorem mW_s1 (i : Nat) (v : Int32) : sI (mW w M fl ar) 601 (M + 1) i v = mW w M fl (up ar 1 (up (ar 1) i v)) := mW_sak w M fl ar (by omega) (by omega) i v
theorem mW_a2 (i : Nat) : gI (mW w M fl ar) 601 (M + 2) i = ar 2 i := mW_ak w M fl ar (by omega) (by omega) i
theorem mW_s2 (i : Nat) (v : Int32) : sI (mW w M fl ar) 601 (M + 2) i v = mW w M fl (up ar 2 (up (ar 2) i v)) := mW_sak w M fl ar (by omega) (by omega) i v
theorem mW_a3 (i : Nat) : gI (mW w M fl ar) 601 (M + 3) i = ar 3 i := mW_ak w M fl ar (by omega) (by omega) i
theorem mW_s3 (i : Nat) (v : Int32) : sI (mW w M fl ar) 601 (M + 3) i v = mW w M fl (up ar 3 (up (ar 3) i v)) := mW_sak w M fl ar (by omega) (by omega) i v
theorem mW_a4 (i : Nat) : gI (mW w M fl ar) 601 (M + 4) i = ar 4 i := mW_ak w M fl ar (by omega) (by omega) i
theorem mW_s4 (i : Nat) (v : Int32) : sI (mW w M fl ar) 601 (M + 4) i v = mW w M fl (up ar 4 (up (ar 4) i v)) := mW_sak w M fl ar (by omega) (by omega) i v
theorem mW_a5 (i : Nat) : gI (mW w M fl ar) 601 (M + 5) i = ar 5 i := mW_ak w M fl ar (by omega) (by omega) i
theorem mW_s5 (i : Nat) (v : Int32) : sI (mW w M fl ar) 601 (M + 5) i v = mW w M fl (up ar 5 (up (ar 5) i v)) := mW_sak w M fl ar (by omega) (by omega) i v
theorem mW_a6 (i : Nat) : gI (mW w M fl ar) 601 (M + 6) i = ar 6 i := mW_ak w M fl ar (by omega) (by omega) i
theorem mW_s6 (i : Nat) (v : Int32) : sI (mW w M fl ar) 601 (M + 6) i v = mW w M fl (up ar 6 (up (ar 6) i v)) := mW_sak w M fl ar (by omega) (by omega) i v
theorem mW_a7 (i : Nat) : gI (mW w M fl ar) 601 (M + 7) i = ar 7 i := mW_ak w M fl ar (by omega) (by omega) i
theorem mW_s7 (i : Nat) (v : Int32) : sI (mW w M fl ar) 601 (M + 7) i v = mW w M fl (up ar 7 (up (ar 7) i v)) := mW_sak w M fl ar (by omega) (by omega) i v
theorem mW_a8 (i : Nat) : gI (mW w M fl ar) 601 (M + 8) i = ar 8 i := mW_ak w M fl ar (by omega) (by omega) i
theorem mW_s8 (i : Nat) (v : Int32) : sI (mW w M fl ar) 601 (M + 8) i v = mW w M fl (up ar 8 (up (ar 8) i v)) := mW_sak w M fl ar (by omega) (by omega) i v
end MW
