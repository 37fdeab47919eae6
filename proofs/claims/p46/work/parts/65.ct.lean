/-! The class: what its tickets answer -/
def TK (w : FW) (τ : Nat) (A : Nat → Int32) (t : Nat) : Prop := TS w τ ∧ TR w τ A t ∧ WTk A t
theorem TK.h0 {w : FW} {τ t : Nat} {A : Nat → Int32} (T : TK w τ A t) : HK w (τ + 3) (τ + 1) A t 0 := ⟨T.1.2.1, T.2.1.2.2.2.2.2.2.1, T.1.2.2.2.2.2.2, T.2.1.1, T.2.2, by omega⟩
theorem TK.h1 {w : FW} {τ t : Nat} {A : Nat → Int32} (T : TK w τ A t) : HK w (τ + 4) (τ + 1) A t 1 := ⟨T.1.2.2.1, T.2.1.2.2.2.2.2.2.2, T.1.2.2.2.2.2.2, T.2.1.1, T.2.2, by omega⟩
theorem TK.h {w : FW} {τ t h : Nat} {A : Nat → Int32} (T : TK w τ A t) (hh : h < 2) : HK w (τ + 3 + h) (τ + 1) A t h := by
  rcases (show h = 0 ∨ h = 1 by omega) with rfl | rfl
  · exact T.h0
  · exact T.h1
theorem TK.h6 {w : FW} {τ t : Nat} {A : Nat → Int32} (T : TK w τ A t) : aLen A t ≤ 6 := T.2.2.len.2
theorem TK.w {w : FW} {τ t : Nat} {A : Nat → Int32} (T : TK w τ A t) : w.1 τ = 3 ∧ w.1 (τ + 1) = 4 ∧ gR w 200 τ 0 = τ + 1 ∧ gI w 301 (τ + 1) 0 = nI (aLen A t) := ⟨T.1.1, T.1.2.2.2.2.2.2.1, T.1.2.2.2.1, T.2.1.1.1⟩
def fmo5 (x : Int32) : Int32 := if 0 ≤ (x ^^^ 5) then frem x 5 else if frem x 5 = 0 then frem x 5 else frem x 5 + 5
theorem c_fmo5 (x : Int32) (w : FW) : F_J9_floorMod_7cf53 x 5 w = some (fmo5 x) := by
  unfold F_J9_floorMod_7cf53 fmo5
  rw [fg_t (by decide), ite_some, ite_some]
/-- both halves read one word, each in its way -/
def aAgree (A : Nat → Int32) (t : Nat) : Int32 := if pun A t 0 = 0 then 0 else if pun A t 1 = 0 then 0 else match (List.range (aLen A t)).find? (fun k => decide (¬ aReads A t 0 k = aReads A t 1 k)) with
  | some _ => 0
  | none => 1
theorem agree_01 (A : Nat → Int32) (t : Nat) : aAgree A t = 0 ∨ aAgree A t = 1 := by
  unfold aAgree
  split
  · exact Or.inl rfl
  · split
    · exact Or.inl rfl
    · split
      · exact Or.inl rfl
      · exact Or.inr rfl
def sbhV (L0 L1 x : Int32) : Int32 := if (if L0 = 0 then (1 : Int32) else 0) = (if L1 = 0 then 1 else 0) then (if L0 = 0 then 0 else x) else 1
theorem sbh_go {α : Type} {a b x : Int32} {z y : α} (h : sbhV a b x = 0) : (if (if a = 0 then (1 : Int32) else 0) = (if b = 0 then 1 else 0) then (if a = 0 then z else if x = 0 then z else y) else y) = z := by
  unfold sbhV at h
  by_cases ha : a = 0 <;> by_cases hb : b = 0
  · simp only [if_pos ha, if_pos hb, if_true, eq_self]
  · simp only [if_pos ha, if_neg hb, j10, if_false] at h
  · simp only [if_neg ha, if_pos hb, j01, if_false, j10] at h
  · simp only [if_neg ha, if_neg hb, if_true, eq_self] at h ⊢
    rw [if_pos h]
theorem sbh_no {α : Type} {a b x : Int32} {z y : α} (h : ¬ sbhV a b x = 0) : (if (if a = 0 then (1 : Int32) else 0) = (if b = 0 then 1 else 0) then (if a = 0 then z else if x = 0 then z else y) else y) = y := by
  unfold sbhV at h
  by_cases ha : a = 0 <;> by_cases hb : b = 0
  · simp only [if_pos ha, if_pos hb, if_true, eq_self, not_true] at h
  · simp only [if_pos ha, if_neg hb, j10, if_false]
  · simp only [if_neg ha, if_pos hb, j01, if_false]
  · simp only [if_neg ha, if_neg hb, if_true, eq_self] at h ⊢
    rw [if_neg h]
set_option maxRecDepth 4000 in
theorem sbh_t : ∀ a, a < 6 → ∀ b, b < 6 → ∀ m, m < 5 → ∀ n, n < 5 → decide (sbhV (nI a) (nI b) (fmo5 (nI a - nI b - (nI m - nI n))) = 0) = decide ((if nI a = 0 then 63 else vowFor (m5 (nI a - 1 - nI m))) = (if nI b = 0 then 63 else vowFor (m5 (nI b - 1 - nI n)))) := by decide +kernel
section CT
variable {w : FW} {τ t : Nat} {A : Nat → Int32}
theorem c_half (T : TK w τ A t) {h : Nat} (hh : h < 2) {z : Int32} (hz : zz z = nI h) : F_X2_half τ z w = some (τ + 3 + h) := by
  unfold F_X2_half
  unfold zz at hz
  rcases (show h = 0 ∨ h = 1 by omega) with rfl | rfl
  · have : z = 0 := by
      by_cases c : z = 0
      · exact c
      · rw [if_neg c] at hz
        exact absurd hz (by decide)
    rw [if_pos this, fg_t T.1.1, T.1.2.2.2.2.1]
  · have : ¬ z = 0 := by
      intro c
      rw [if_pos c] at hz
      exact absurd hz (by decide)
    rw [if_neg this, fg_t T.1.1, T.1.2.2.2.2.2.1]
theorem sbh_reads (T : TK w τ A t) (h0 : ¬ pun A t 0 = 0) (h1 : ¬ pun A t 1 = 0) {k : Nat} : (sbhV (aLeft A t 0 k (aH A t 0 1)) (aLeft A t 1 k (aH A t 1 1)) (fmo5 (aLeft A t 0 k (aH A t 0 1) - aLeft A t 1 k (aH A t 1 1) - (aH A t 0 0 - aH A t 1 0))) = 0) ↔ aReads A t 0 k = aReads A t 1 k := by
  have g0 := T.2.2.g (h := 0) (by omega)
  have g1 := T.2.2.g (h := 1) (by omega)
  have p0 : ¬ aH A t 0 0 = -1 := fun z => h0 (pun_0.mpr z)
  have p1 : ¬ aH A t 1 0 = -1 := fun z => h1 (pun_0.mpr z)
  unfold aReads aRead
  by_cases hv : vow (aL A t k) = -1
  · rw [left_un g0 (Or.inr hv), left_un g1 (Or.inr hv), if_pos hv, if_pos hv]
    exact ⟨fun _ => rfl, fun _ => rfl⟩
  · rw [if_neg hv, if_neg hv]
    obtain ⟨m, hm, e1⟩ := (T.2.2.m (h := 0) (by omega)).resolve_left p0
    obtain ⟨n, hn, e2⟩ := (T.2.2.m (h := 1) (by omega)).resolve_left p1
    obtain ⟨a, ha, e3⟩ := left_r (k := k) g0 (T.2.2.m (h := 0) (by omega))
    obtain ⟨b, hb, e4⟩ := left_r (k := k) g1 (T.2.2.m (h := 1) (by omega))
    rw [e1, e2, e3, e4]
    exact decide_eq_decide.mp (sbh_t a ha b hb m hm n hn)
theorem c_sameByReading (T : TK w τ A t) : F_X2_isSameByReading τ w = some (aAgree A t) := by
  have H0 := T.h0
  have H1 := T.h1
  obtain ⟨q1, q2, q3, q4⟩ := T.w
  have q5 := T.1.2.2.2.2.1
  have q6 := T.1.2.2.2.2.2.1
  have h6 := T.h6
  unfold F_X2_isSameByReading aAgree
  have z0 := H0.1
  have z1 := H1.1
  simp (disch := first | assumption | decide | ((simp only [q1, q2, q3, q5, q6, z0, z1]) <;> first | assumption | decide | (with_reducible apply ix_ok rfl <;> first | assumption | omega | decide) | (with_reducible apply ix_ok2 <;> first | assumption | omega | decide) | skip) | skip) only [fg_t, Option.bind_some, q1, q2, q3, q5, q6, z0, z1, H0.2.1.1, H1.2.1.1]
  by_cases h0 : pun A t 0 = 0
  · rw [if_pos h0, if_pos h0]
  rw [if_neg h0, if_neg h0]
  by_cases h1 : pun A t 1 = 0
  · rw [if_pos h1, if_pos h1]
  rw [if_neg h1, if_neg h1]
  refine fLoop_findb (fun k => nI k) (aLen A t) (fun k => ¬ aReads A t 0 k = aReads A t 1 k) (r := .inl ()) (q := fun _ => .inr 0) rfl (fun k hk hp => ?_) (fun k hk hp => ?_) ?_ ?_
  · have c1 : ¬ nI (aLen A t) ≤ nI k := nI_ge hk (by omega)
    simp (disch := first | assumption | decide | ((simp only [q1, q2, q4, z0, z1]) <;> first | assumption | decide | (with_reducible apply ix_ok rfl <;> first | assumption | omega | decide) | (with_reducible apply ix_ok2 <;> first | assumption | omega | decide) | skip) | skip) only [fg_t, Option.bind_some, q1, q2, q4, z0, z1, c_letter H0 hk, c_seen H0 hk, c_seen H1 hk, if_neg c1, if_pos (Decidable.not_not.mp hp), nI_1]
  · have c1 : ¬ nI (aLen A t) ≤ nI k := nI_ge hk (by omega)
    simp (disch := first | assumption | decide | ((simp only [q1, q2, q4, z0, z1]) <;> first | assumption | decide | (with_reducible apply ix_ok rfl <;> first | assumption | omega | decide) | (with_reducible apply ix_ok2 <;> first | assumption | omega | decide) | skip) | skip) only [fg_t, Option.bind_some, q1, q2, q4, z0, z1, c_letter H0 hk, c_seen H0 hk, c_seen H1 hk, if_neg c1, if_neg hp]
  · have c1 : nI (aLen A t) ≤ nI (aLen A t) := nI_le (Nat.le_refl _) (by omega)
    simp (disch := first | assumption | decide | ((simp only [q1, q2, q4, z0, z1]) <;> first | assumption | decide | (with_reducible apply ix_ok rfl <;> first | assumption | omega | decide) | (with_reducible apply ix_ok2 <;> first | assumption | omega | decide) | skip) | skip) only [fg_t, Option.bind_some, q1, q2, q4, z0, z1, if_pos c1]
  · cases (List.range (aLen A t)).find? (fun k => decide (¬ aReads A t 0 k = aReads A t 1 k)) <;> rfl
theorem c_sameByHoles (T : TK w τ A t) : F_X2_isSameByHoles τ w = some (aAgree A t) := by
  have H0 := T.h0
  have H1 := T.h1
  obtain ⟨q1, q2, q3, q4⟩ := T.w
  have q5 := T.1.2.2.2.2.1
  have q6 := T.1.2.2.2.2.2.1
  have h6 := T.h6
  have g0 := T.2.2.g (h := 0) (by omega)
  have g1 := T.2.2.g (h := 1) (by omega)
  unfold F_X2_isSameByHoles aAgree
  have z0 := H0.1
  have z1 := H1.1
  simp (disch := first | assumption | decide | ((simp only [q1, q2, q3, q5, q6, z0, z1]) <;> first | assumption | decide | (with_reducible apply ix_ok rfl <;> first | assumption | omega | decide) | (with_reducible apply ix_ok2 <;> first | assumption | omega | decide) | skip) | skip) only [fg_t, Option.bind_some, q1, q2, q3, q5, q6, z0, z1, H0.2.1.1, H1.2.1.1]
  by_cases h0 : pun A t 0 = 0
  · rw [if_pos h0, if_pos h0]
  rw [if_neg h0, if_neg h0]
  by_cases h1 : pun A t 1 = 0
  · rw [if_pos h1, if_pos h1]
  rw [if_neg h1, if_neg h1]
  refine fLoop_findb (fun k => nI k) (aLen A t) (fun k => ¬ aReads A t 0 k = aReads A t 1 k) (r := .inl ()) (q := fun _ => .inr 0) rfl (fun k hk hp => ?_) (fun k hk hp => ?_) ?_ ?_
  · have c1 : ¬ nI (aLen A t) ≤ nI k := nI_ge hk (by omega)
    have c2 := (sbh_reads T h0 h1).mpr (Decidable.not_not.mp hp)
    simp (disch := first | assumption | decide | ((simp only [q1, q2, q4, z0, z1]) <;> first | assumption | decide | (with_reducible apply ix_ok rfl <;> first | assumption | omega | decide) | (with_reducible apply ix_ok2 <;> first | assumption | omega | decide) | skip) | skip) only [fg_t, Option.bind_some, q1, q2, q4, z0, z1, H0.2.1.2.1, H1.2.1.2.1, H0.2.1.2.2.1, H1.2.1.2.2.1, c_letter H0 hk, c_vowel, c_hholes H0 g0, c_hholes H1 g1, c_fmo5, ite_some, if_neg c1, nI_1]
    exact congrArg some (sbh_go c2)
  · have c1 : ¬ nI (aLen A t) ≤ nI k := nI_ge hk (by omega)
    have c2 := fun z => hp ((sbh_reads T h0 h1).mp z)
    simp (disch := first | assumption | decide | ((simp only [q1, q2, q4, z0, z1]) <;> first | assumption | decide | (with_reducible apply ix_ok rfl <;> first | assumption | omega | decide) | (with_reducible apply ix_ok2 <;> first | assumption | omega | decide) | skip) | skip) only [fg_t, Option.bind_some, q1, q2, q4, z0, z1, H0.2.1.2.1, H1.2.1.2.1, H0.2.1.2.2.1, H1.2.1.2.2.1, c_letter H0 hk, c_vowel, c_hholes H0 g0, c_hholes H1 g1, c_fmo5, ite_some, if_neg c1, nI_1]
    exact congrArg some (sbh_no c2)
  · have c1 : nI (aLen A t) ≤ nI (aLen A t) := nI_le (Nat.le_refl _) (by omega)
    simp (disch := first | assumption | decide | ((simp only [q1, q2, q4, z0, z1]) <;> first | assumption | decide | (with_reducible apply ix_ok rfl <;> first | assumption | omega | decide) | (with_reducible apply ix_ok2 <;> first | assumption | omega | decide) | skip) | skip) only [fg_t, Option.bind_some, q1, q2, q4, z0, z1, if_pos c1]
  · cases (List.range (aLen A t)).find? (fun k => decide (¬ aReads A t 0 k = aReads A t 1 k)) <;> rfl
theorem c_wetness (T : TK w τ A t) : F_X2_wetness τ w = some (aH A t 0 1 + aH A t 1 1) := by
  unfold F_X2_wetness
  have H0 := T.h0
  have H1 := T.h1
  obtain ⟨q1, q2, q3, q4⟩ := T.w
  have q5 := T.1.2.2.2.2.1
  have q6 := T.1.2.2.2.2.2.1
  have z0 := H0.1
  have z1 := H1.1
  simp (disch := first | assumption | decide | ((simp only [q1, q2, q3, q5, q6, z0, z1]) <;> first | assumption | decide | (with_reducible apply ix_ok rfl <;> first | assumption | omega | decide) | (with_reducible apply ix_ok2 <;> first | assumption | omega | decide) | skip) | skip) only [fg_t, Option.bind_some, q1, q2, q3, q5, q6, z0, z1, H0.2.1.2.2.1, H1.2.1.2.2.1]
theorem c_tholes (T : TK w τ A t) : F_X2_holesLeft τ w = some (aLeftOf A t 0 + aLeftOf A t 1) := by
  unfold F_X2_holesLeft
  have H0 := T.h0
  have H1 := T.h1
  obtain ⟨q1, q2, q3, q4⟩ := T.w
  have q5 := T.1.2.2.2.2.1
  have q6 := T.1.2.2.2.2.2.1
  have z0 := H0.1
  have z1 := H1.1
  simp (disch := first | assumption | decide | ((simp only [q1, q2, q3, q5, q6, z0, z1]) <;> first | assumption | decide | (with_reducible apply ix_ok rfl <;> first | assumption | omega | decide) | (with_reducible apply ix_ok2 <;> first | assumption | omega | decide) | skip) | skip) only [fg_t, Option.bind_some, q1, q2, q3, q5, q6, z0, z1, H0.2.1.2.2.1, H1.2.1.2.2.1, c_holesLeft H0, c_holesLeft H1]
theorem c_measured (T : TK w τ A t) (m : Int32) : F_X2_measured τ m w = some (aMeas A t m) := by
  unfold F_X2_measured aMeas
  obtain ⟨q1, q2, q3, q4⟩ := T.w
  simp (disch := first | assumption | decide | ((simp only [q1, q2, q3]) <;> first | assumption | decide | (with_reducible apply ix_ok rfl <;> first | assumption | omega | decide) | (with_reducible apply ix_ok2 <;> first | assumption | omega | decide) | skip) | skip) only [fg_t, Option.bind_some, q1, q2, q3, c_wetness T, c_tholes T, q4, T.2.2.len.1, ite_some]
/-- the words of two tickets are one -/
noncomputable def aEqW (A : Nat → Int32) (a b : Nat) : Int32 := @ite _ (∀ k, k < 7 → aT A a k = aT A b k) (Classical.propDecidable _) 1 0
theorem eqW_l {A : Nat → Int32} {a b : Nat} (ha : WTk A a) (hb : WTk A b) : (∀ k, k < 7 → aT A a k = aT A b k) ↔ (aLen A a = aLen A b ∧ ∀ k, k < aLen A a → aL A a k = aL A b k) := by
  constructor
  · intro h
    refine ⟨by unfold aLen; rw [h 0 (by omega)], fun k hk => ?_⟩
    have := ha.len.2
    exact h (1 + k) (by omega)
  · intro ⟨h1, h2⟩ k hk
    by_cases k0 : k = 0
    · subst k0
      rw [ha.len.1, hb.len.1, h1]
    · have e : ∀ t, aT A t k = aL A t (k - 1) := fun t => by unfold aT aL; congr 1; omega
      rw [e, e]
      by_cases hkn : k - 1 < aLen A a
      · exact h2 _ hkn
      · obtain ⟨n, a1, a2, a3, -, a5⟩ := ha.1
        obtain ⟨m, b1, b2, b3, -, b5⟩ := hb.1
        have e1 : aLen A a = n := by unfold aLen; rw [a3]; exact nI_clamp (by omega)
        have e2 : aLen A b = m := by unfold aLen; rw [b3]; exact nI_clamp (by omega)
        rw [a5 _ (by omega) (by omega), b5 _ (by omega) (by omega)]
theorem c_isSame {τ' t' : Nat} (T : TK w τ A t) (T' : TK w τ' A t') : F_X3_isSame (τ + 1) (τ' + 1) w = some (aEqW A t t') := by
  obtain ⟨q1, q2, q3, q4⟩ := T.w
  obtain ⟨p1, p2, p3, p4⟩ := T'.w
  have h6 := T.h6
  have h6' := T'.h6
  unfold F_X3_isSame aEqW
  simp only [fg_t q2, fg_t p2, q4, p4, eqW_l T.2.2 T'.2.2]
  by_cases hn : aLen A t = aLen A t'
  · rw [if_pos (by rw [hn])]
    refine fLoop_findb (fun k => nI k) (aLen A t) (fun k => ¬ aL A t k = aL A t' k) (r := .inl ()) (q := fun _ => .inr 0) rfl (fun k hk hp => ?_) (fun k hk hp => ?_) ?_ ?_
    · have c1 : ¬ nI (aLen A t) ≤ nI k := nI_ge (by omega) (by omega)
      simp (disch := first | assumption | decide | ((simp only [q1, q2, q4, p2, p4]) <;> first | assumption | decide | (with_reducible apply ix_ok rfl <;> first | assumption | omega | decide) | (with_reducible apply ix_ok2 <;> first | assumption | omega | decide) | skip) | skip) only [fg_t, Option.bind_some, q1, q2, q4, p2, p4, c_letter T.h0 hk, c_letter T'.h0 (show k < aLen A t' by omega), if_neg c1, if_pos (Decidable.not_not.mp hp), nI_1]
    · have c1 : ¬ nI (aLen A t) ≤ nI k := nI_ge (by omega) (by omega)
      simp (disch := first | assumption | decide | ((simp only [q1, q2, q4, p2, p4]) <;> first | assumption | decide | (with_reducible apply ix_ok rfl <;> first | assumption | omega | decide) | (with_reducible apply ix_ok2 <;> first | assumption | omega | decide) | skip) | skip) only [fg_t, Option.bind_some, q1, q2, q4, p2, p4, c_letter T.h0 hk, c_letter T'.h0 (show k < aLen A t' by omega), if_neg c1, if_neg hp]
    · have c1 : nI (aLen A t) ≤ nI (aLen A t) := nI_le (by omega) (by omega)
      simp (disch := first | assumption | decide | ((simp only [q1, q2, q4, p2, p4]) <;> first | assumption | decide | (with_reducible apply ix_ok rfl <;> first | assumption | omega | decide) | (with_reducible apply ix_ok2 <;> first | assumption | omega | decide) | skip) | skip) only [fg_t, Option.bind_some, q1, q2, q4, p2, p4, if_pos c1]
    · cases hf : (List.range (aLen A t)).find? (fun k => decide (¬ aL A t k = aL A t' k)) with
      | none =>
        have : ∀ k, k < aLen A t → aL A t k = aL A t' k := fun k hk => by
          have := List.find?_eq_none.mp hf k (List.mem_range.mpr hk)
          simpa using this
        rw [if_pos ⟨hn, this⟩]
        rfl
      | some k =>
        have hp : ¬ aL A t k = aL A t' k := by have := List.find?_some hf; simpa using this
        have hk : k < aLen A t := List.mem_range.mp (List.mem_of_find?_eq_some hf)
        rw [if_neg (fun z => hp (z.2 k hk))]
        rfl
  · have hz : ¬ nI (aLen A t) = nI (aLen A t') := by
      intro z
      have := congrArg Int32.toNatClampNeg z
      rw [nI_clamp (by omega), nI_clamp (by omega)] at this
      exact hn this
    rw [if_neg hz, if_neg (fun z => hn z.1)]
end CT
