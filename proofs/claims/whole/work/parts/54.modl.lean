/-! The reference's loops -/
theorem fLoop_bind {σ ρ β : Type} {f : σ → Option (σ ⊕ ρ)} {s : σ} {r : ρ} {g : ρ → Option β} {z : Option β} (st : Nat → σ) (n : Nat) (hs : s = st 0) (hgo : ∀ k, k < n → f (st k) = some (.inl (st (k + 1)))) (hend : f (st n) = some (.inr r)) (hz : g r = z) : (fLoop f s).bind g = z := by
  rw [hs, fLoop_for st n hgo hend]
  exact hz
theorem fLoop_findb {σ ρ β : Type} {f : σ → Option (σ ⊕ ρ)} {s : σ} {g : ρ → Option β} {z : Option β} (st : Nat → σ) (n : Nat) (P : Nat → Prop) [DecidablePred P] {r : ρ} {q : Nat → ρ} (hs : s = st 0) (hgo : ∀ k, k < n → ¬ P k → f (st k) = some (.inl (st (k + 1)))) (hx : ∀ k, k < n → P k → f (st k) = some (.inr (q k))) (hend : f (st n) = some (.inr r)) (hz : g (match (List.range n).find? (fun k => decide (P k)) with | some k => q k | none => r) = z) : (fLoop f s).bind g = z := by
  rw [hs, fLoop_find st n P hgo hx hend]
  exact hz
theorem st_ite {ρ σ : Type} {c : Prop} [Decidable c] (a x y : Int32) (b : σ) : (if c then some (Sum.inl (a + x, b)) else some (Sum.inl (a + y, b))) = (some (Sum.inl (a + (if c then x else y), b)) : Option ((Int32 × σ) ⊕ ρ)) := by
  by_cases h : c
  · rw [if_pos h, if_pos h]
  · rw [if_neg h, if_neg h]
section ML
variable {w : FW} {M : Nat} {fl : Nat → Int32} {ar : Nat → Nat → Int32}
theorem m_rightOf (hB : MB w M) {t h : Nat} (ht : t < 8) (hh : h < 2) (hn : aT (ar 1) t 0 = nI (aLen (ar 1) t)) (h6 : aLen (ar 1) t ≤ 6) (g m : Int32) : F_X5_rightOf M (nI t) (nI h) g m (mW w M fl ar) = some (aRight (ar 1) t h g m) := by
  obtain ⟨zk0, zk1, zk2, zk3, zk4, zk5, zk6, zk7, zk8, zl1, zl2, zl3, zl4, zl5, zl6, zl7, zl8, zr1, zr2, zr3, zr4, zr5, zr6, zr7, zr8⟩ := id hB
  unfold F_X5_rightOf aRight
  refine fLoop_bind (fun k => (cnt (fun k => if aRead (ar 1) t h k g m = aL (ar 1) t k then 1 else 0) k, nI k)) (aLen (ar 1) t) rfl (fun k hk => ?_) ?_ rfl
  · have hk6 : k < 6 := by omega
    have c1 : ¬ nI (aLen (ar 1) t) ≤ nI k := nI_ge hk (by omega)
    simp (disch := first | assumption | (simp only [mW_k, mW_l, mW_R, sI_k, sI_l, gR_I, mW_s1, mW_sf, mW_a1, zk1, zl1, zr1, *]) <;> first | decide | (apply ix_ok rfl <;> first | omega | decide) | skip) only [mW_k, mW_l, mW_R, gR_I, zr1, fg_t, mW_a1, mW_s1, mW_sf, mW_f, Option.bind_some, zk0, m_of0 hB ht, hn, if_neg c1, nI_1, cnt_s, m_readWith hB ht hh hk6, m_letterOf hB ht hk6, st_ite]
  · have c1 : nI (aLen (ar 1) t) ≤ nI (aLen (ar 1) t) := nI_le (Nat.le_refl _) (by omega)
    simp (disch := first | assumption | (simp only [mW_k, mW_l, mW_R, sI_k, sI_l, gR_I, mW_s1, mW_sf, mW_a1, zk1, zl1, zr1, *]) <;> first | decide | (apply ix_ok rfl <;> first | omega | decide) | skip) only [mW_k, mW_l, mW_R, gR_I, zr1, fg_t, mW_a1, mW_s1, mW_sf, mW_f, Option.bind_some, zk0, m_of0 hB ht, hn, if_pos c1]
theorem m_holesOf (hB : MB w M) {t h : Nat} (ht : t < 8) (hh : h < 2) (hn : aT (ar 1) t 0 = nI (aLen (ar 1) t)) (h6 : aLen (ar 1) t ≤ 6) : F_X5_holesOf M (nI t) (nI h) (mW w M fl ar) = some (aHolesOf (ar 1) t h) := by
  obtain ⟨zk0, zk1, zk2, zk3, zk4, zk5, zk6, zk7, zk8, zl1, zl2, zl3, zl4, zl5, zl6, zl7, zl8, zr1, zr2, zr3, zr4, zr5, zr6, zr7, zr8⟩ := id hB
  unfold F_X5_holesOf aHolesOf
  refine fLoop_bind (fun k => (cnt (fun k => aHoles (ar 1) t h k) k, nI k)) (aLen (ar 1) t) rfl (fun k hk => ?_) ?_ rfl
  · have hk6 : k < 6 := by omega
    have c1 : ¬ nI (aLen (ar 1) t) ≤ nI k := nI_ge hk (by omega)
    simp (disch := first | assumption | (simp only [mW_k, mW_l, mW_R, sI_k, sI_l, gR_I, mW_s1, mW_sf, mW_a1, zk1, zl1, zr1, *]) <;> first | decide | (apply ix_ok rfl <;> first | omega | decide) | skip) only [mW_k, mW_l, mW_R, gR_I, zr1, fg_t, mW_a1, mW_s1, mW_sf, mW_f, Option.bind_some, zk0, m_of0 hB ht, hn, if_neg c1, nI_1, cnt_s, m_holesAt hB ht hh hk6]
  · have c1 : nI (aLen (ar 1) t) ≤ nI (aLen (ar 1) t) := nI_le (Nat.le_refl _) (by omega)
    simp (disch := first | assumption | (simp only [mW_k, mW_l, mW_R, sI_k, sI_l, gR_I, mW_s1, mW_sf, mW_a1, zk1, zl1, zr1, *]) <;> first | decide | (apply ix_ok rfl <;> first | omega | decide) | skip) only [mW_k, mW_l, mW_R, gR_I, zr1, fg_t, mW_a1, mW_s1, mW_sf, mW_f, Option.bind_some, zk0, m_of0 hB ht, hn, if_pos c1]
theorem m_leftOf (hB : MB w M) {t h : Nat} (ht : t < 8) (hh : h < 2) (hn : aT (ar 1) t 0 = nI (aLen (ar 1) t)) (h6 : aLen (ar 1) t ≤ 6) : F_X5_leftOf M (nI t) (nI h) (mW w M fl ar) = some (aLeftOf (ar 1) t h) := by
  obtain ⟨zk0, zk1, zk2, zk3, zk4, zk5, zk6, zk7, zk8, zl1, zl2, zl3, zl4, zl5, zl6, zl7, zl8, zr1, zr2, zr3, zr4, zr5, zr6, zr7, zr8⟩ := id hB
  unfold F_X5_leftOf aLeftOf
  refine fLoop_bind (fun k => (cnt (fun k => aLeft (ar 1) t h k (aH (ar 1) t h 1)) k, nI k)) (aLen (ar 1) t) rfl (fun k hk => ?_) ?_ rfl
  · have hk6 : k < 6 := by omega
    have c1 : ¬ nI (aLen (ar 1) t) ≤ nI k := nI_ge hk (by omega)
    simp (disch := first | assumption | (simp only [mW_k, mW_l, mW_R, sI_k, sI_l, gR_I, mW_s1, mW_sf, mW_a1, zk1, zl1, zr1, *]) <;> first | decide | (apply ix_ok rfl <;> first | omega | decide) | skip) only [mW_k, mW_l, mW_R, gR_I, zr1, fg_t, mW_a1, mW_s1, mW_sf, mW_f, Option.bind_some, zk0, m_of0 hB ht, hn, if_neg c1, nI_1, cnt_s, m_half1 hB ht hh, m_leftAt hB ht hh hk6]
  · have c1 : nI (aLen (ar 1) t) ≤ nI (aLen (ar 1) t) := nI_le (Nat.le_refl _) (by omega)
    simp (disch := first | assumption | (simp only [mW_k, mW_l, mW_R, sI_k, sI_l, gR_I, mW_s1, mW_sf, mW_a1, zk1, zl1, zr1, *]) <;> first | decide | (apply ix_ok rfl <;> first | omega | decide) | skip) only [mW_k, mW_l, mW_R, gR_I, zr1, fg_t, mW_a1, mW_s1, mW_sf, mW_f, Option.bind_some, zk0, m_of0 hB ht, hn, if_pos c1]
theorem m_vowelsOf (hB : MB w M) {t : Nat} (ht : t < 8) (hn : aT (ar 1) t 0 = nI (aLen (ar 1) t)) (h6 : aLen (ar 1) t ≤ 6) : F_X5_vowelsOf M (nI t) (mW w M fl ar) = some (aVowels (ar 1) t) := by
  obtain ⟨zk0, zk1, zk2, zk3, zk4, zk5, zk6, zk7, zk8, zl1, zl2, zl3, zl4, zl5, zl6, zl7, zl8, zr1, zr2, zr3, zr4, zr5, zr6, zr7, zr8⟩ := id hB
  unfold F_X5_vowelsOf aVowels
  refine fLoop_bind (fun k => (cnt (fun k => if vow (aL (ar 1) t k) = -1 then 0 else 1) k, nI k)) (aLen (ar 1) t) rfl (fun k hk => ?_) ?_ rfl
  · have hk6 : k < 6 := by omega
    have c1 : ¬ nI (aLen (ar 1) t) ≤ nI k := nI_ge hk (by omega)
    simp (disch := first | assumption | (simp only [mW_k, mW_l, mW_R, sI_k, sI_l, gR_I, mW_s1, mW_sf, mW_a1, zk1, zl1, zr1, *]) <;> first | decide | (apply ix_ok rfl <;> first | omega | decide) | skip) only [mW_k, mW_l, mW_R, gR_I, zr1, fg_t, mW_a1, mW_s1, mW_sf, mW_f, Option.bind_some, zk0, m_of0 hB ht, hn, if_neg c1, nI_1, cnt_s, m_letterOf hB ht hk6, m_vowel, st_ite]
  · have c1 : nI (aLen (ar 1) t) ≤ nI (aLen (ar 1) t) := nI_le (Nat.le_refl _) (by omega)
    simp (disch := first | assumption | (simp only [mW_k, mW_l, mW_R, sI_k, sI_l, gR_I, mW_s1, mW_sf, mW_a1, zk1, zl1, zr1, *]) <;> first | decide | (apply ix_ok rfl <;> first | omega | decide) | skip) only [mW_k, mW_l, mW_R, gR_I, zr1, fg_t, mW_a1, mW_s1, mW_sf, mW_f, Option.bind_some, zk0, m_of0 hB ht, hn, if_pos c1]
theorem m_leftOf0 (hB : MB w M) {t : Nat} (ht : t < 8) (hn : aT (ar 1) t 0 = nI (aLen (ar 1) t)) (h6 : aLen (ar 1) t ≤ 6) : F_X5_leftOf M (nI t) 0 (mW w M fl ar) = some (aLeftOf (ar 1) t 0) := m_leftOf hB (h := 0) ht (by decide) hn h6
theorem m_leftOf1 (hB : MB w M) {t : Nat} (ht : t < 8) (hn : aT (ar 1) t 0 = nI (aLen (ar 1) t)) (h6 : aLen (ar 1) t ≤ 6) : F_X5_leftOf M (nI t) 1 (mW w M fl ar) = some (aLeftOf (ar 1) t 1) := m_leftOf hB (h := 1) ht (by decide) hn h6
theorem m_firstUnlike (hB : MB w M) {t h : Nat} (ht : t < 8) (hh : h < 2) (hn : aT (ar 1) t 0 = nI (aLen (ar 1) t)) (h6 : aLen (ar 1) t ≤ 6) : F_X5_firstUnlike M (nI t) (nI h) (mW w M fl ar) = some (aUnlike (ar 1) t h) := by
  obtain ⟨zk0, zk1, zk2, zk3, zk4, zk5, zk6, zk7, zk8, zl1, zl2, zl3, zl4, zl5, zl6, zl7, zl8, zr1, zr2, zr3, zr4, zr5, zr6, zr7, zr8⟩ := id hB
  unfold F_X5_firstUnlike aUnlike
  refine fLoop_findb (fun k => nI k) (aLen (ar 1) t) (fun k => ¬ aReads (ar 1) t h k = aL (ar 1) t k) (r := .inl ()) (q := fun k => .inr (nI k)) rfl (fun k hk hp => ?_) (fun k hk hp => ?_) ?_ ?_
  · have hk6 : k < 6 := by omega
    have c1 : ¬ nI (aLen (ar 1) t) ≤ nI k := nI_ge hk (by omega)
    simp (disch := first | assumption | (simp only [mW_k, mW_l, mW_R, sI_k, sI_l, gR_I, mW_s1, mW_sf, mW_a1, zk1, zl1, zr1, *]) <;> first | decide | (apply ix_ok rfl <;> first | omega | decide) | skip) only [mW_k, mW_l, mW_R, gR_I, zr1, fg_t, mW_a1, mW_s1, mW_sf, mW_f, Option.bind_some, zk0, m_of0 hB ht, hn, if_neg c1, nI_1, m_reads hB ht hh hk6, m_letterOf hB ht hk6, if_pos (Decidable.not_not.mp hp)]
  · have hk6 : k < 6 := by omega
    have c1 : ¬ nI (aLen (ar 1) t) ≤ nI k := nI_ge hk (by omega)
    simp (disch := first | assumption | (simp only [mW_k, mW_l, mW_R, sI_k, sI_l, gR_I, mW_s1, mW_sf, mW_a1, zk1, zl1, zr1, *]) <;> first | decide | (apply ix_ok rfl <;> first | omega | decide) | skip) only [mW_k, mW_l, mW_R, gR_I, zr1, fg_t, mW_a1, mW_s1, mW_sf, mW_f, Option.bind_some, zk0, m_of0 hB ht, hn, if_neg c1, nI_1, m_reads hB ht hh hk6, m_letterOf hB ht hk6, if_neg hp]
  · have c1 : nI (aLen (ar 1) t) ≤ nI (aLen (ar 1) t) := nI_le (Nat.le_refl _) (by omega)
    simp (disch := first | assumption | (simp only [mW_k, mW_l, mW_R, sI_k, sI_l, gR_I, mW_s1, mW_sf, mW_a1, zk1, zl1, zr1, *]) <;> first | decide | (apply ix_ok rfl <;> first | omega | decide) | skip) only [mW_k, mW_l, mW_R, gR_I, zr1, fg_t, mW_a1, mW_s1, mW_sf, mW_f, Option.bind_some, zk0, m_of0 hB ht, hn, if_pos c1]
  · cases (List.range (aLen (ar 1) t)).find? (fun k => decide (¬ aReads (ar 1) t h k = aL (ar 1) t k)) <;> rfl
theorem m_isRead (hB : MB w M) {t h : Nat} (ht : t < 8) (hh : h < 2) (hn : aT (ar 1) t 0 = nI (aLen (ar 1) t)) (h6 : aLen (ar 1) t ≤ 6) : F_X5_isRead M (nI t) (nI h) (mW w M fl ar) = some (aIsRead (ar 1) t h) := by
  obtain ⟨zk0, zk1, zk2, zk3, zk4, zk5, zk6, zk7, zk8, zl1, zl2, zl3, zl4, zl5, zl6, zl7, zl8, zr1, zr2, zr3, zr4, zr5, zr6, zr7, zr8⟩ := id hB
  unfold F_X5_isRead aIsRead
  simp (disch := first | assumption | (simp only [mW_k, mW_l, mW_R, sI_k, sI_l, gR_I, mW_s1, mW_sf, mW_a1, zk1, zl1, zr1, *]) <;> first | decide | (apply ix_ok rfl <;> first | omega | decide) | skip) only [mW_k, mW_l, mW_R, gR_I, zr1, fg_t, mW_a1, mW_s1, mW_sf, mW_f, Option.bind_some, zk0, m_isPunched hB ht hh, pun_0, m_half0 hB ht hh, m_half1 hB ht hh, m_rightOf hB ht hh hn h6, m_of0 hB ht, ite_some]
theorem m_tornMany (hB : MB w M) (hn : ar 1 0 = nI (aN (ar 1))) (h8 : aN (ar 1) ≤ 8) : F_X5_tornMany M (mW w M fl ar) = some (aTorn (ar 1)) := by
  obtain ⟨zk0, zk1, zk2, zk3, zk4, zk5, zk6, zk7, zk8, zl1, zl2, zl3, zl4, zl5, zl6, zl7, zl8, zr1, zr2, zr3, zr4, zr5, zr6, zr7, zr8⟩ := id hB
  unfold F_X5_tornMany aTorn
  refine fLoop_bind (fun k => (cnt (fun t => aT (ar 1) t 10) k, nI k)) (aN (ar 1)) rfl (fun t hk => ?_) ?_ rfl
  · have ht : t < 8 := by omega
    have c1 : ¬ nI (aN (ar 1)) ≤ nI t := nI_ge hk (by omega)
    simp (disch := first | assumption | (simp only [mW_k, mW_l, mW_R, sI_k, sI_l, gR_I, mW_s1, mW_sf, mW_a1, zk1, zl1, zr1, *]) <;> first | decide | (apply ix_ok rfl <;> first | omega | decide) | skip) only [mW_k, mW_l, mW_R, gR_I, zr1, fg_t, mW_a1, mW_s1, mW_sf, mW_f, Option.bind_some, zk0, show Int32.toNatClampNeg 0 = 0 from rfl, hn, if_neg c1, nI_1, cnt_s, m_of10 hB ht]
  · have c1 : nI (aN (ar 1)) ≤ nI (aN (ar 1)) := nI_le (Nat.le_refl _) (by omega)
    simp (disch := first | assumption | (simp only [mW_k, mW_l, mW_R, sI_k, sI_l, gR_I, mW_s1, mW_sf, mW_a1, zk1, zl1, zr1, *]) <;> first | decide | (apply ix_ok rfl <;> first | omega | decide) | skip) only [mW_k, mW_l, mW_R, gR_I, zr1, fg_t, mW_a1, mW_s1, mW_sf, mW_f, Option.bind_some, zk0, show Int32.toNatClampNeg 0 = 0 from rfl, hn, if_pos c1]
theorem m_lostMany (hB : MB w M) (hn : ar 1 0 = nI (aN (ar 1))) (h8 : aN (ar 1) ≤ 8) : F_X5_lostMany M (mW w M fl ar) = some (aLost (ar 1)) := by
  obtain ⟨zk0, zk1, zk2, zk3, zk4, zk5, zk6, zk7, zk8, zl1, zl2, zl3, zl4, zl5, zl6, zl7, zl8, zr1, zr2, zr3, zr4, zr5, zr6, zr7, zr8⟩ := id hB
  unfold F_X5_lostMany aLost
  refine fLoop_bind (fun k => (cnt (fun t => aH (ar 1) t 0 2 + aH (ar 1) t 1 2) k, nI k)) (aN (ar 1)) rfl (fun t hk => ?_) ?_ rfl
  · have ht : t < 8 := by omega
    have c1 : ¬ nI (aN (ar 1)) ≤ nI t := nI_ge hk (by omega)
    simp (disch := first | assumption | (simp only [mW_k, mW_l, mW_R, sI_k, sI_l, gR_I, mW_s1, mW_sf, mW_a1, zk1, zl1, zr1, *]) <;> first | decide | (apply ix_ok rfl <;> first | omega | decide) | skip) only [mW_k, mW_l, mW_R, gR_I, zr1, fg_t, mW_a1, mW_s1, mW_sf, mW_f, Option.bind_some, zk0, show Int32.toNatClampNeg 0 = 0 from rfl, hn, if_neg c1, nI_1, cnt_s, m_half02 hB ht, m_half12 hB ht]
  · have c1 : nI (aN (ar 1)) ≤ nI (aN (ar 1)) := nI_le (Nat.le_refl _) (by omega)
    simp (disch := first | assumption | (simp only [mW_k, mW_l, mW_R, sI_k, sI_l, gR_I, mW_s1, mW_sf, mW_a1, zk1, zl1, zr1, *]) <;> first | decide | (apply ix_ok rfl <;> first | omega | decide) | skip) only [mW_k, mW_l, mW_R, gR_I, zr1, fg_t, mW_a1, mW_s1, mW_sf, mW_f, Option.bind_some, zk0, show Int32.toNatClampNeg 0 = 0 from rfl, hn, if_pos c1]
theorem zz_pun (A : Nat → Int32) (t h : Nat) : zz (pun A t h) = pun A t h := by
  unfold zz pun
  by_cases c : aH A t h 0 = -1
  · rw [if_pos c]; rfl
  · rw [if_neg c]; rfl
theorem m_punchedMany (hB : MB w M) (hn : ar 1 0 = nI (aN (ar 1))) (h8 : aN (ar 1) ≤ 8) : F_X5_punchedMany M (mW w M fl ar) = some (aPunched (ar 1)) := by
  obtain ⟨zk0, zk1, zk2, zk3, zk4, zk5, zk6, zk7, zk8, zl1, zl2, zl3, zl4, zl5, zl6, zl7, zl8, zr1, zr2, zr3, zr4, zr5, zr6, zr7, zr8⟩ := id hB
  unfold F_X5_punchedMany aPunched
  refine fLoop_bind (fun k => (cnt (fun t => pun (ar 1) t 0 + pun (ar 1) t 1) k, nI k)) (aN (ar 1)) rfl (fun t hk => ?_) ?_ rfl
  · have ht : t < 8 := by omega
    have c1 : ¬ nI (aN (ar 1)) ≤ nI t := nI_ge hk (by omega)
    simp (disch := first | assumption | (simp only [mW_k, mW_l, mW_R, sI_k, sI_l, gR_I, mW_s1, mW_sf, mW_a1, zk1, zl1, zr1, *]) <;> first | decide | (apply ix_ok rfl <;> first | omega | decide) | skip) only [mW_k, mW_l, mW_R, gR_I, zr1, fg_t, mW_a1, mW_s1, mW_sf, mW_f, Option.bind_some, zk0, show Int32.toNatClampNeg 0 = 0 from rfl, hn, if_neg c1, nI_1, cnt_s, m_isPunched0 hB ht, m_isPunched1 hB ht, m_number, zz_pun]
  · have c1 : nI (aN (ar 1)) ≤ nI (aN (ar 1)) := nI_le (Nat.le_refl _) (by omega)
    simp (disch := first | assumption | (simp only [mW_k, mW_l, mW_R, sI_k, sI_l, gR_I, mW_s1, mW_sf, mW_a1, zk1, zl1, zr1, *]) <;> first | decide | (apply ix_ok rfl <;> first | omega | decide) | skip) only [mW_k, mW_l, mW_R, gR_I, zr1, fg_t, mW_a1, mW_s1, mW_sf, mW_f, Option.bind_some, zk0, show Int32.toNatClampNeg 0 = 0 from rfl, hn, if_pos c1]
theorem m_allLeft (hB : MB w M) (hn : ar 1 0 = nI (aN (ar 1))) (h8 : aN (ar 1) ≤ 8) (hl : ∀ t, t < aN (ar 1) → aT (ar 1) t 0 = nI (aLen (ar 1) t) ∧ aLen (ar 1) t ≤ 6) : F_X5_allLeft M (mW w M fl ar) = some (aAllLeft (ar 1)) := by
  obtain ⟨zk0, zk1, zk2, zk3, zk4, zk5, zk6, zk7, zk8, zl1, zl2, zl3, zl4, zl5, zl6, zl7, zl8, zr1, zr2, zr3, zr4, zr5, zr6, zr7, zr8⟩ := id hB
  unfold F_X5_allLeft aAllLeft
  refine fLoop_bind (fun k => (cnt (fun t => aLeftOf (ar 1) t 0 + aLeftOf (ar 1) t 1) k, nI k)) (aN (ar 1)) rfl (fun t hk => ?_) ?_ rfl
  · have ht : t < 8 := by omega
    have c1 : ¬ nI (aN (ar 1)) ≤ nI t := nI_ge hk (by omega)
    simp (disch := first | assumption | (simp only [mW_k, mW_l, mW_R, sI_k, sI_l, gR_I, mW_s1, mW_sf, mW_a1, zk1, zl1, zr1, *]) <;> first | decide | (apply ix_ok rfl <;> first | omega | decide) | skip) only [mW_k, mW_l, mW_R, gR_I, zr1, fg_t, mW_a1, mW_s1, mW_sf, mW_f, Option.bind_some, zk0, show Int32.toNatClampNeg 0 = 0 from rfl, hn, if_neg c1, nI_1, cnt_s, m_leftOf0 hB ht (hl t hk).1 (hl t hk).2, m_leftOf1 hB ht (hl t hk).1 (hl t hk).2]
  · have c1 : nI (aN (ar 1)) ≤ nI (aN (ar 1)) := nI_le (Nat.le_refl _) (by omega)
    simp (disch := first | assumption | (simp only [mW_k, mW_l, mW_R, sI_k, sI_l, gR_I, mW_s1, mW_sf, mW_a1, zk1, zl1, zr1, *]) <;> first | decide | (apply ix_ok rfl <;> first | omega | decide) | skip) only [mW_k, mW_l, mW_R, gR_I, zr1, fg_t, mW_a1, mW_s1, mW_sf, mW_f, Option.bind_some, zk0, show Int32.toNatClampNeg 0 = 0 from rfl, hn, if_pos c1]
theorem m_isClosed (hB : MB w M) {p : Nat} : F_X5_isClosed M (nI p) (mW w M fl ar) = some (aShut (ar 1) p) := by
  obtain ⟨zk0, zk1, zk2, zk3, zk4, zk5, zk6, zk7, zk8, zl1, zl2, zl3, zl4, zl5, zl6, zl7, zl8, zr1, zr2, zr3, zr4, zr5, zr6, zr7, zr8⟩ := id hB
  unfold F_X5_isClosed aShut
  simp (disch := first | assumption | (simp only [mW_k, mW_l, mW_R, sI_k, sI_l, gR_I, mW_s1, mW_sf, mW_a1, zk1, zl1, zr1, *]) <;> first | decide | (apply ix_ok rfl <;> first | omega | decide) | skip) only [mW_k, mW_l, mW_R, gR_I, zr1, fg_t, mW_a1, mW_s1, mW_sf, mW_f, Option.bind_some, zk0, show Int32.toNatClampNeg 6 = 6 from rfl, ite_some]
theorem m_openMany (hB : MB w M) : F_X5_openMany M (mW w M fl ar) = some (aOpen (ar 1)) := by
  obtain ⟨zk0, zk1, zk2, zk3, zk4, zk5, zk6, zk7, zk8, zl1, zl2, zl3, zl4, zl5, zl6, zl7, zl8, zr1, zr2, zr3, zr4, zr5, zr6, zr7, zr8⟩ := id hB
  unfold F_X5_openMany aOpen
  refine fLoop_bind (fun k => (cnt (fun p => if aShut (ar 1) p = 0 then 1 else 0) k, nI k)) 5 rfl (fun p hk => ?_) ?_ rfl
  · have c1 : ¬ (5 : Int32) ≤ nI p := nI_ge (b := 5) hk (by decide)
    simp (disch := first | assumption | (simp only [mW_k, mW_l, mW_R, sI_k, sI_l, gR_I, mW_s1, mW_sf, mW_a1, zk1, zl1, zr1, *]) <;> first | decide | (apply ix_ok rfl <;> first | omega | decide) | skip) only [mW_k, mW_l, mW_R, gR_I, zr1, fg_t, mW_a1, mW_s1, mW_sf, mW_f, Option.bind_some, zk0, if_neg c1, nI_1, cnt_s, m_isClosed hB, st_ite]
  · have c1 : (5 : Int32) ≤ nI 5 := by decide
    simp (disch := first | assumption | (simp only [mW_k, mW_l, mW_R, sI_k, sI_l, gR_I, mW_s1, mW_sf, mW_a1, zk1, zl1, zr1, *]) <;> first | decide | (apply ix_ok rfl <;> first | omega | decide) | skip) only [mW_k, mW_l, mW_R, gR_I, zr1, fg_t, mW_a1, mW_s1, mW_sf, mW_f, Option.bind_some, zk0, if_pos c1]
theorem m_measureOf (hB : MB w M) {t : Nat} (ht : t < 8) (hn : aT (ar 1) t 0 = nI (aLen (ar 1) t)) (h6 : aLen (ar 1) t ≤ 6) (m : Int32) : F_X5_measureOf M (nI t) m (mW w M fl ar) = some (aMeas (ar 1) t m) := by
  obtain ⟨zk0, zk1, zk2, zk3, zk4, zk5, zk6, zk7, zk8, zl1, zl2, zl3, zl4, zl5, zl6, zl7, zl8, zr1, zr2, zr3, zr4, zr5, zr6, zr7, zr8⟩ := id hB
  unfold F_X5_measureOf aMeas
  simp (disch := first | assumption | (simp only [mW_k, mW_l, mW_R, sI_k, sI_l, gR_I, mW_s1, mW_sf, mW_a1, zk1, zl1, zr1, *]) <;> first | decide | (apply ix_ok rfl <;> first | omega | decide) | skip) only [mW_k, mW_l, mW_R, gR_I, zr1, fg_t, mW_a1, mW_s1, mW_sf, mW_f, Option.bind_some, zk0, m_half01 hB ht, m_half11 hB ht, m_leftOf0 hB ht hn h6, m_leftOf1 hB ht hn h6, m_of0 hB ht, ite_some]
theorem inn_01 (x a b : Int32) : inn x a b = 0 ∨ inn x a b = 1 := by
  unfold inn
  by_cases h : x < a
  · exact Or.inl (if_pos h)
  · rw [if_neg h]
    by_cases h2 : b < x
    · exact Or.inl (if_pos h2)
    · exact Or.inr (if_neg h2)
theorem m_isTicket (hB : MB w M) (x : Int32) : F_X5_isTicket M x (mW w M fl ar) = some (inn x 0 (ar 1 0 - 1)) := by
  obtain ⟨zk0, zk1, zk2, zk3, zk4, zk5, zk6, zk7, zk8, zl1, zl2, zl3, zl4, zl5, zl6, zl7, zl8, zr1, zr2, zr3, zr4, zr5, zr6, zr7, zr8⟩ := id hB
  unfold F_X5_isTicket
  simp (disch := first | assumption | (simp only [mW_k, mW_l, mW_R, sI_k, sI_l, gR_I, mW_s1, mW_sf, mW_a1, zk1, zl1, zr1, *]) <;> first | decide | (apply ix_ok rfl <;> first | omega | decide) | skip) only [mW_k, mW_l, mW_R, gR_I, zr1, fg_t, mW_a1, mW_s1, mW_sf, mW_f, Option.bind_some, zk0, show Int32.toNatClampNeg 0 = 0 from rfl, m_in, fg_t (inn_01 x 0 (ar 1 0 - 1))]
end ML
