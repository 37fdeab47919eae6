/-! The class: what its halves answer -/
/-- a half at η of the ticket whose word is at d -/
def HK (w : FW) (η d : Nat) (A : Nat → Int32) (t h : Nat) : Prop := w.1 η = 1 ∧ HR w η A t h ∧ WS w d ∧ WR w d (aLen A t) (aL A t) ∧ WTk A t ∧ h < 2
def mOK (A : Nat → Int32) (t h : Nat) (m : Int32) : Prop := aH A t h 0 = -1 ∨ ∃ j, j < 5 ∧ m = nI j
def gOK (g : Int32) : Prop := ∃ j, j < 10 ∧ g = nI j
theorem WTk.m {A : Nat → Int32} {t h : Nat} (H : WTk A t) (hh : h < 2) : mOK A t h (aH A t h 0) := (H.2.2.2.2.2.2.1 h hh).1
theorem WTk.g {A : Nat → Int32} {t h : Nat} (H : WTk A t) (hh : h < 2) : gOK (aH A t h 1) := (H.2.2.2.2.2.2.1 h hh).2.1
theorem WTk.l {A : Nat → Int32} {t k : Nat} (H : WTk A t) (hk : k < aLen A t) : isLet (aL A t k) = 1 := by
  obtain ⟨n, h1, h2, h3, h4, -⟩ := H.1
  have : aLen A t = n := by unfold aLen; rw [h3]; exact nI_clamp (by omega)
  exact h4 k (by omega)
theorem gOK.z : gOK 0 := ⟨0, by omega, rfl⟩
theorem left_z : ∀ j, j < 10 → (if (0 : Int32) ≤ (0 : Int32) - nI j / 3 then (0 : Int32) - nI j / 3 else 0) = 0 := by decide +kernel
theorem left_t : ∀ v, v < 5 → ∀ m, m < 5 → ∀ j, j < 10 → (if 1 + frem (nI v + nI m) 5 ≤ nI j / 3 then (0 : Int32) else 1 + frem (nI v + nI m) 5 - nI j / 3) = (if 0 ≤ 1 + m5 (nI v + nI m) - nI j / 3 then 1 + m5 (nI v + nI m) - nI j / 3 else 0) := by decide +kernel
theorem left_v : ∀ v, v < 5 → ∀ m, m < 5 → ∀ j, j < 10 → (if 0 ≤ 1 + m5 (nI v + nI m) - nI j / 3 then 1 + m5 (nI v + nI m) - nI j / 3 else (0 : Int32)) = nI (1 + (v + m) % 5 - j / 3) := by decide +kernel
theorem left_un {A : Nat → Int32} {t h k : Nat} {g : Int32} (hg : gOK g) (hm : aH A t h 0 = -1 ∨ vow (aL A t k) = -1) : aLeft A t h k g = 0 := by
  obtain ⟨j, hj, rfl⟩ := hg
  have : aHoles A t h k = 0 := by
    unfold aHoles
    rcases hm with hm | hm
    · rw [if_pos hm]
      exact ite_self _
    · rw [if_pos hm]
  unfold aLeft
  rw [this]
  exact left_z j hj
theorem left_r {A : Nat → Int32} {t h k : Nat} {g : Int32} (hg : gOK g) (hm : mOK A t h (aH A t h 0)) : ∃ L, L < 6 ∧ aLeft A t h k g = nI L := by
  by_cases h1 : aH A t h 0 = -1
  · exact ⟨0, by omega, left_un hg (Or.inl h1)⟩
  · rcases vow_c (aL A t k) with h2 | ⟨v, hv, h2⟩
    · exact ⟨0, by omega, left_un hg (Or.inr h2)⟩
    · obtain ⟨m, hm5, hm⟩ := hm.resolve_left h1
      obtain ⟨j, hj, rfl⟩ := hg
      have h3 : ¬ nI v = -1 := by
        rcases (show v = 0 ∨ v = 1 ∨ v = 2 ∨ v = 3 ∨ v = 4 by omega) with rfl | rfl | rfl | rfl | rfl <;> decide
      refine ⟨1 + (v + m) % 5 - j / 3, by omega, ?_⟩
      unfold aLeft aHoles
      rw [h2, if_neg h3, if_neg h1, hm]
      exact left_v v hv m hm5 j hj
theorem left_0t : ∀ v, v < 5 → ∀ m, m < 5 → (if 0 ≤ 1 + m5 (nI v + nI m) then 1 + m5 (nI v + nI m) else (0 : Int32)) = 1 + m5 (nI v + nI m) := by decide +kernel
theorem left_0 {A : Nat → Int32} {t h k : Nat} (hm : mOK A t h (aH A t h 0)) : aLeft A t h k 0 = aHoles A t h k := by
  have e : (0 : Int32) / 3 = 0 := by decide
  unfold aLeft
  rw [e, Int32.sub_zero]
  by_cases h1 : aH A t h 0 = -1
  · unfold aHoles
    rw [if_pos h1, ite_self]
    exact if_pos (by decide)
  · rcases vow_c (aL A t k) with h2 | ⟨v, hv, h2⟩
    · unfold aHoles
      rw [if_pos h2]
      exact if_pos (by decide)
    · obtain ⟨m, hm5, hm⟩ := hm.resolve_left h1
      have h3 : ¬ nI v = -1 := by
        rcases (show v = 0 ∨ v = 1 ∨ v = 2 ∨ v = 3 ∨ v = 4 by omega) with rfl | rfl | rfl | rfl | rfl <;> decide
      unfold aHoles
      rw [h2, if_neg h3, if_neg h1, hm]
      exact left_0t v hv m hm5
theorem c_holesFor {w : FW} {η t h : Nat} {A : Nat → Int32} (hη : w.1 η = 1) (hr : HR w η A t h) (hm : mOK A t h (aH A t h 0)) {g : Int32} (hg : gOK g) (k : Nat) : F_X0_holesFor η (vow (aL A t k)) g w = some (aLeft A t h k g) := by
  unfold F_X0_holesFor
  rw [fg_t hη, hr.1, hr.2.1]
  by_cases h1 : aH A t h 0 = -1
  · rw [if_pos (pun_0.mpr h1), left_un hg (Or.inl h1)]
  · rw [if_neg (fun z => h1 (pun_0.mp z))]
    rcases vow_c (aL A t k) with h2 | ⟨v, hv, h2⟩
    · rw [if_pos h2, left_un hg (Or.inr h2)]
    · obtain ⟨m, hm5, hm⟩ := hm.resolve_left h1
      obtain ⟨j, hj, rfl⟩ := hg
      have h3 : ¬ nI v = -1 := by
        rcases (show v = 0 ∨ v = 1 ∨ v = 2 ∨ v = 3 ∨ v = 4 by omega) with rfl | rfl | rfl | rfl | rfl <;> decide
      unfold aLeft aHoles
      rw [h2, if_neg h3, if_neg h3, if_neg h1, hm, ite_some]
      exact congrArg some (left_t v hv m hm5 j hj)
theorem fm_t : ∀ L, L < 6 → ∀ m, m < 5 → (if 0 ≤ ((nI L - 1 - nI m) ^^^ 5) then frem (nI L - 1 - nI m) 5 else if frem (nI L - 1 - nI m) 5 = 0 then frem (nI L - 1 - nI m) 5 else frem (nI L - 1 - nI m) 5 + 5) = m5 (nI L - 1 - nI m) := by decide +kernel
theorem fm_v : ∀ L, L < 6 → ∀ m, m < 5 → m5 (nI L - 1 - nI m) = nI ((L + 9 - m) % 5) := by decide +kernel
theorem c_floorMod {L m : Nat} (hL : L < 6) (hm : m < 5) (w : FW) : F_J9_floorMod_7cf53 (nI L - 1 - nI m) 5 w = some (m5 (nI L - 1 - nI m)) := by
  unfold F_J9_floorMod_7cf53
  rw [fg_t (by decide), ite_some, ite_some]
  exact congrArg some (fm_t L hL m hm)
theorem vf_t : ∀ q, q < 5 → ¬ (nI q < 0 ∨ (fByt.getD 0 []).length ≤ Int32.toNatClampNeg (nI q)) ∧ fch (fsc 0 (nI q)) = fsc 0 (nI q) ∧ fsc 0 (nI q) = vowFor (nI q) := by decide +kernel
theorem c_seenAs {w : FW} {η t h k : Nat} {A : Nat → Int32} (hη : w.1 η = 1) (hr : HR w η A t h) (hm : mOK A t h (aH A t h 0)) {g m' : Int32} (hg : gOK g) (hm' : mOK A t h m') (hl : isLet (aL A t k) = 1) : F_X0_seenAs η (aL A t k) m' g w = some (aRead A t h k g m') := by
  unfold F_X0_seenAs aRead
  rw [c_vowel, Option.bind_some]
  by_cases hv : vow (aL A t k) = -1
  · rw [if_pos hv, if_pos hv, fg_t (isLet_fch hl)]
  · rw [if_neg hv, if_neg hv, fg_t hη, c_holesFor hη hr hm hg, Option.bind_some]
    by_cases h0 : aLeft A t h k g = 0
    · rw [if_pos h0, if_pos h0]
    · rw [if_neg h0, if_neg h0]
      obtain ⟨L, hL, e⟩ := left_r (k := k) hg hm
      obtain ⟨m, hm5, rfl⟩ := hm'.resolve_left (fun z => h0 (left_un hg (Or.inl z)))
      rw [e, c_floorMod hL hm5, Option.bind_some, fm_v L hL m hm5]
      obtain ⟨a1, a2, a3⟩ := vf_t ((L + 9 - m) % 5) (by omega)
      rw [fg_t a1, fg_t a2, a3]
theorem vowFor_fch (v : Int32) : fch (vowFor v) = vowFor v := by
  unfold vowFor
  split
  · decide
  · split
    · decide
    · split
      · decide
      · split
        · decide
        · decide
theorem read_fch {A : Nat → Int32} {t h k : Nat} (g m : Int32) (hl : isLet (aL A t k) = 1) : fch (aRead A t h k g m) = aRead A t h k g m := by
  unfold aRead
  split
  · exact isLet_fch hl
  · split
    · decide
    · exact vowFor_fch _
section CH
variable {w : FW} {η d t h : Nat} {A : Nat → Int32}
theorem HK.h6 (H : HK w η d A t h) : aLen A t ≤ 6 := H.2.2.2.2.1.len.2
theorem c_hholes (H : HK w η d A t h) {g : Int32} (hg : gOK g) (k : Nat) : F_X0_holesFor η (vow (aL A t k)) g w = some (aLeft A t h k g) := c_holesFor H.1 H.2.1 (H.2.2.2.2.1.m H.2.2.2.2.2) hg k
theorem c_letter (H : HK w η d A t h) {k : Nat} (hk : k < aLen A t) : F_X3_letterAt d (nI k) w = some (aL A t k) := c_letterAt H.2.2.1 H.2.2.2.1 H.h6 hk
theorem c_hseenAs (H : HK w η d A t h) {g m' : Int32} (hg : gOK g) (hm' : mOK A t h m') {k : Nat} (hk : k < aLen A t) : F_X0_seenAs η (aL A t k) m' g w = some (aRead A t h k g m') := c_seenAs H.1 H.2.1 (H.2.2.2.2.1.m H.2.2.2.2.2) hg hm' (H.2.2.2.2.1.l hk)
theorem c_seen (H : HK w η d A t h) {k : Nat} (hk : k < aLen A t) : F_X0_seen η (aL A t k) w = some (aReads A t h k) := by
  unfold F_X0_seen
  rw [fg_t H.1, H.2.1.2.1, H.2.1.2.2.1, c_hseenAs H (H.2.2.2.2.1.g H.2.2.2.2.2) (H.2.2.2.2.1.m H.2.2.2.2.2) hk, Option.bind_some]
  exact fg_t (read_fch _ _ (H.2.2.2.2.1.l hk))
theorem c_holesWhenWet (H : HK w η d A t h) {g : Int32} (hg : gOK g) : F_X0_holesWhenWet η d g w = some (cnt (fun k => aLeft A t h k g) (aLen A t)) := by
  unfold F_X0_holesWhenWet
  have h6 := H.h6
  have z1 := H.1
  have z2 := H.2.2.1.1
  have z3 := H.2.2.2.1.1
  refine fLoop_bind (fun k => (cnt (fun k => aLeft A t h k g) k, nI k)) (aLen A t) rfl (fun k hk => ?_) ?_ rfl
  · have c1 : ¬ nI (aLen A t) ≤ nI k := nI_ge hk (by omega)
    simp (disch := first | assumption | decide | ((simp only [z1, z2, z3]) <;> first | assumption | decide | (with_reducible apply ix_ok rfl <;> first | assumption | omega | decide) | (with_reducible apply ix_ok2 <;> first | assumption | omega | decide) | skip) | skip) only [fg_t, Option.bind_some, z1, z2, z3, c_letter H hk, c_vowel, c_hholes H hg, if_neg c1, nI_1, cnt_s, st_ite, st_l0, st_l1]
  · have c1 : nI (aLen A t) ≤ nI (aLen A t) := nI_le (Nat.le_refl _) (by omega)
    simp (disch := first | assumption | decide | ((simp only [z1, z2, z3]) <;> first | assumption | decide | (with_reducible apply ix_ok rfl <;> first | assumption | omega | decide) | (with_reducible apply ix_ok2 <;> first | assumption | omega | decide) | skip) | skip) only [fg_t, Option.bind_some, z1, z2, z3, if_pos c1]
theorem c_rightLetters (H : HK w η d A t h) {g m' : Int32} (hg : gOK g) (hm' : mOK A t h m') : F_X0_rightLetters η d m' g w = some (aRight A t h g m') := by
  unfold F_X0_rightLetters aRight
  have h6 := H.h6
  have z1 := H.1
  have z2 := H.2.2.1.1
  have z3 := H.2.2.2.1.1
  refine fLoop_bind (fun k => (cnt (fun k => if aRead A t h k g m' = aL A t k then 1 else 0) k, nI k)) (aLen A t) rfl (fun k hk => ?_) ?_ rfl
  · have c1 : ¬ nI (aLen A t) ≤ nI k := nI_ge hk (by omega)
    simp (disch := first | assumption | decide | ((simp only [z1, z2, z3]) <;> first | assumption | decide | (with_reducible apply ix_ok rfl <;> first | assumption | omega | decide) | (with_reducible apply ix_ok2 <;> first | assumption | omega | decide) | skip) | skip) only [fg_t, Option.bind_some, z1, z2, z3, c_letter H hk, c_hseenAs H hg hm' hk, if_neg c1, nI_1, cnt_s, st_ite, st_l0, st_l1]
  · have c1 : nI (aLen A t) ≤ nI (aLen A t) := nI_le (Nat.le_refl _) (by omega)
    simp (disch := first | assumption | decide | ((simp only [z1, z2, z3]) <;> first | assumption | decide | (with_reducible apply ix_ok rfl <;> first | assumption | omega | decide) | (with_reducible apply ix_ok2 <;> first | assumption | omega | decide) | skip) | skip) only [fg_t, Option.bind_some, z1, z2, z3, if_pos c1]
theorem c_holesLeft (H : HK w η d A t h) : F_X0_holesWhenWet η d (aH A t h 1) w = some (aLeftOf A t h) := c_holesWhenWet H (H.2.2.2.2.1.g H.2.2.2.2.2)
theorem c_holesOf (H : HK w η d A t h) : F_X0_holesWhenWet η d 0 w = some (aHolesOf A t h) := by
  rw [c_holesWhenWet H gOK.z]
  exact congrArg some (cnt_congr (fun k _ => left_0 (H.2.2.2.2.1.m H.2.2.2.2.2)))
theorem c_firstWrong (H : HK w η d A t h) : F_X0_firstWrongPlace η d w = some (aUnlike A t h) := by
  unfold F_X0_firstWrongPlace aUnlike
  have h6 := H.h6
  have z1 := H.1
  have z2 := H.2.2.1.1
  have z3 := H.2.2.2.1.1
  have hs := fun {k : Nat} (hk : k < aLen A t) => c_hseenAs H (H.2.2.2.2.1.g H.2.2.2.2.2) (H.2.2.2.2.1.m H.2.2.2.2.2) hk
  refine fLoop_findb (fun k => nI k) (aLen A t) (fun k => ¬ aReads A t h k = aL A t k) (r := .inl ()) (q := fun k => .inr (nI k)) rfl (fun k hk hp => ?_) (fun k hk hp => ?_) ?_ ?_
  · have c1 : ¬ nI (aLen A t) ≤ nI k := nI_ge hk (by omega)
    have c2 : aRead A t h k (aH A t h 1) (aH A t h 0) = aL A t k := Decidable.not_not.mp hp
    simp (disch := first | assumption | decide | ((simp only [z1, z2, z3]) <;> first | assumption | decide | (with_reducible apply ix_ok rfl <;> first | assumption | omega | decide) | (with_reducible apply ix_ok2 <;> first | assumption | omega | decide) | skip) | skip) only [fg_t, Option.bind_some, z1, z2, z3, c_letter H hk, H.2.1.2.1, H.2.1.2.2.1, hs hk, if_neg c1, if_pos c2, nI_1]
  · have c1 : ¬ nI (aLen A t) ≤ nI k := nI_ge hk (by omega)
    have c2 : ¬ aRead A t h k (aH A t h 1) (aH A t h 0) = aL A t k := hp
    simp (disch := first | assumption | decide | ((simp only [z1, z2, z3]) <;> first | assumption | decide | (with_reducible apply ix_ok rfl <;> first | assumption | omega | decide) | (with_reducible apply ix_ok2 <;> first | assumption | omega | decide) | skip) | skip) only [fg_t, Option.bind_some, z1, z2, z3, c_letter H hk, H.2.1.2.1, H.2.1.2.2.1, hs hk, if_neg c1, if_neg c2]
  · have c1 : nI (aLen A t) ≤ nI (aLen A t) := nI_le (Nat.le_refl _) (by omega)
    simp (disch := first | assumption | decide | ((simp only [z1, z2, z3]) <;> first | assumption | decide | (with_reducible apply ix_ok rfl <;> first | assumption | omega | decide) | (with_reducible apply ix_ok2 <;> first | assumption | omega | decide) | skip) | skip) only [fg_t, Option.bind_some, z1, z2, z3, if_pos c1]
  · cases (List.range (aLen A t)).find? (fun k => decide (¬ aReads A t h k = aL A t k)) <;> rfl
theorem cnt_le (f : Nat → Int32) (hf : ∀ k, f k = 0 ∨ f k = 1) (n : Nat) : ∃ c, c ≤ n ∧ cnt f n = nI c ∧ (c = n ↔ ∀ k, k < n → f k = 1) := by
  induction n with
  | zero => exact ⟨0, by omega, rfl, ⟨fun _ k hk => by omega, fun _ => rfl⟩⟩
  | succ n ih =>
    obtain ⟨c, h1, h2, h3⟩ := ih
    rcases hf n with h0 | h0
    · refine ⟨c, by omega, by rw [cnt_s, h2, h0, Int32.add_zero], ⟨fun e => by omega, fun e => ?_⟩⟩
      have := e n (by omega)
      rw [h0] at this
      exact absurd this (by decide)
    · refine ⟨c + 1, by omega, by rw [cnt_s, h2, h0, nI_succ], ⟨fun e k hk => ?_, fun e => ?_⟩⟩
      · by_cases hkn : k = n
        · rw [hkn]; exact h0
        · exact h3.mp (by omega) k (by omega)
      · have := h3.mpr (fun k hk => e k (by omega))
        omega
theorem unlike_all {A : Nat → Int32} {t h : Nat} (hw : WTk A t) : (aUnlike A t h = -1) = (aRight A t h (aH A t h 1) (aH A t h 0) = aT A t 0) := by
  obtain ⟨hn, h6⟩ := hw.len
  obtain ⟨c, h1, h2, h3⟩ := cnt_le (fun k => if aRead A t h k (aH A t h 1) (aH A t h 0) = aL A t k then 1 else 0) (fun k => by by_cases z : aRead A t h k (aH A t h 1) (aH A t h 0) = aL A t k; exact Or.inr (if_pos z); exact Or.inl (if_neg z)) (aLen A t)
  have e1 : aRight A t h (aH A t h 1) (aH A t h 0) = nI c := h2
  have e2 : (nI c = nI (aLen A t)) = (c = aLen A t) := by
    apply propext
    constructor
    · intro z
      have := congrArg Int32.toNatClampNeg z
      rw [nI_clamp (by omega), nI_clamp (by omega)] at this
      exact this
    · intro z
      rw [z]
  rw [e1, hn, e2]
  apply propext
  rw [h3]
  unfold aUnlike
  cases hf : (List.range (aLen A t)).find? (fun k => decide (¬ aReads A t h k = aL A t k)) with
  | none =>
    refine ⟨fun _ k hk => ?_, fun _ => rfl⟩
    have := List.find?_eq_none.mp hf k (List.mem_range.mpr hk)
    simp at this
    exact if_pos this
  | some k =>
    have hp : ¬ aReads A t h k = aL A t k := by have := List.find?_some hf; simpa using this
    have hk : k < aLen A t := List.mem_range.mp (List.mem_of_find?_eq_some hf)
    constructor
    · intro z
      rcases (show k = 0 ∨ k = 1 ∨ k = 2 ∨ k = 3 ∨ k = 4 ∨ k = 5 by omega) with rfl | rfl | rfl | rfl | rfl | rfl <;> exact absurd z (by decide)
    · intro z
      have := z k hk
      rw [if_neg (show ¬ aRead A t h k (aH A t h 1) (aH A t h 0) = aL A t k from hp)] at this
      exact absurd this (by decide)
theorem pun_01 (A : Nat → Int32) (t h : Nat) : pun A t h = 0 ∨ pun A t h = 1 := by
  unfold pun
  split
  · exact Or.inl rfl
  · exact Or.inr rfl
theorem c_isReadRightly (H : HK w η d A t h) : F_X0_isReadRightly η d w = some (aIsRead A t h) := by
  unfold F_X0_isReadRightly aIsRead
  rw [fg_t H.1, H.2.1.1, c_firstWrong H, Option.bind_some, ite_some, ite_some]
  simp only [pun_0, unlike_all H.2.2.2.2.1]
def aDry (A : Nat → Int32) (t h : Nat) : Int32 := if pun A t h = 0 then 1 else if 3 ≤ aH A t h 1 then 1 else if aIsRead A t h = 0 then 0 else 1
theorem c_isRightWhileDry (H : HK w η d A t h) : F_X0_isRightWhileDry η d w = some (aDry A t h) := by
  unfold F_X0_isRightWhileDry aDry
  rw [fg_t H.1, H.2.1.1, H.2.1.2.2.1, c_isReadRightly H, Option.bind_some, ite_some, ite_some, ite_some]
theorem c_wetterBy (hη : w.1 η = 1) (hr : HR w η A t h) (b : Int32) : F_X0_wetterBy η b w = some (if aH A t h 1 + b < 9 then aH A t h 1 + b else 9) := by
  unfold F_X0_wetterBy F_J9_min_7cf53
  rw [fg_t hη, hr.2.2.1, ite_some]
  rfl
end CH
