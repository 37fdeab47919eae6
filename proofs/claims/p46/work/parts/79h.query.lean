/-! The queries -/
section KQU
variable {b x : Nat} {w : FW}
/-- what the law asks of a query that refuses nothing -/
def KV (b : Nat) (x : Nat) (cx : FW → Option Int32) (cm : FW → Option (Int32 × FW)) (w : FW) : Prop :=
  ∃ w2, (∃ (rx : Int32) (b9 : Int32), cx w = some rx ∧ cm w = some (b9, w2) ∧ rx = b9) ∧ JJ b w2 x
theorem KV.mk {n : Nat} {cx : FW → Option Int32} {cm : FW → Option (Int32 × FW)} {r : Int32} (hB : MB w (x + 512)) (J : JP b w x (flW w (x + 512)) (arW w (x + 512)) n) (hc : cx w = some r) (hm : cm (mW w (x + 512) (flW w (x + 512)) (arW w (x + 512))) = some (r, mW w (x + 512) (up (flW w (x + 512)) 500 0) (arW w (x + 512)))) : KV (b + 60) x cx cm w := by
  rw [mW_me] at hm
  exact ⟨_, ⟨r, r, hc, hm, rfl⟩, JJ.q hB J (fun c h1 h2 => up_n h1)⟩

theorem er_ticketOf (a c : Int32) (A : Nat → Int32) : ∀ e, qTicketOf a c A = .inr e → e ∈ [2, 1] := by
  intro e h
  unfold qTicketOf at h
  repeat' split at h
  all_goals (first | (cases h; decide) | (cases h))
theorem er_wordAt (a c : Int32) (A : Nat → Int32) : ∀ e, qWordAt a c A = .inr e → e ∈ [2, 5] := by
  intro e h
  unfold qWordAt at h
  repeat' split at h
  all_goals (first | (cases h; decide) | (cases h))
theorem er_halfOf (a : Int32) (h : Nat) (c : Int32) (A : Nat → Int32) : ∀ e, qHalfOf a h c A = .inr e → e ∈ [2, 1] := by
  intro e h
  unfold qHalfOf at h
  repeat' split at h
  all_goals (first | (cases h; decide) | (cases h))
theorem er_readAt (a : Int32) (h : Nat) (c : Int32) (A : Nat → Int32) : ∀ e, qReadAt a h c A = .inr e → e ∈ [2, 5] := by
  intro e h
  unfold qReadAt at h
  repeat' split at h
  all_goals (first | (cases h; decide) | (cases h))
theorem er_doAgree (a : Int32) (A : Nat → Int32) : ∀ e, qDoAgree a A = .inr e → e ∈ [2] := by
  intro e h
  unfold qDoAgree at h
  repeat' split at h
  all_goals (first | (cases h; decide) | (cases h))
theorem er_moodFor (a : Int32) (h : Nat) (A : Nat → Int32) : ∀ e, qMoodFor a h A = .inr e → e ∈ [2, 5] := by
  intro e h
  unfold qMoodFor at h
  repeat' split at h
  all_goals (first | (cases h; decide) | (cases h))
theorem er_would (a : Int32) (h : Nat) (c : Int32) (A : Nat → Int32) : ∀ e, qWould a h c A = .inr e → e ∈ [2, 1, 5] := by
  intro e h
  unfold qWould at h
  repeat' split at h
  all_goals (first | (cases h; decide) | (cases h))
theorem er_likely (a : Int32) (h : Nat) (A : Nat → Int32) : ∀ e, qLikely a h A = .inr e → e ∈ [2, 5] := by
  intro e h
  unfold qLikely at h
  repeat' split at h
  all_goals (first | (cases h; decide) | (cases h))
theorem er_hinders (a : Int32) (h : Nat) (A : Nat → Int32) : ∀ e, qHinders a h A = .inr e → e ∈ [2] := by
  intro e h
  unfold qHinders at h
  repeat' split at h
  all_goals (first | (cases h; decide) | (cases h))
theorem er_daysLeft (a : Int32) (A : Nat → Int32) : ∀ e, qDaysLeft a A = .inr e → e ∈ [2, 5] := by
  intro e h
  unfold qDaysLeft at h
  repeat' split at h
  all_goals (first | (cases h; decide) | (cases h))
theorem er_sharing (a : Int32) (A : Nat → Int32) : ∀ e, qSharing a A = .inr e → e ∈ [2] := by
  intro e h
  unfold qSharing at h
  repeat' split at h
  all_goals (first | (cases h; decide) | (cases h))
theorem er_often (a : Int32) (A : Nat → Int32) : ∀ e, qOften a A = .inr e → e ∈ [1] := by
  intro e h
  unfold qOften at h
  repeat' split at h
  all_goals (first | (cases h; decide) | (cases h))
theorem er_ranked (a c : Int32) (A : Nat → Int32) : ∀ e, qRanked a c A = .inr e → e ∈ [1, 5] := by
  intro e h
  unfold qRanked at h
  repeat' split at h
  all_goals (first | (cases h; decide) | (cases h))
theorem er_account (a l n : Int32) (A : Nat → Int32) : ∀ e, qAccount a l n A = .inr e → e ∈ [1] := by
  intro e h
  unfold qAccount at h
  by_cases c0 : a = 0
  · rw [if_pos c0] at h
    cases h
  rw [if_neg c0] at h
  by_cases c1 : a = 1
  · rw [if_pos c1] at h
    cases h
  rw [if_neg c1] at h
  by_cases c2 : a = 2
  · rw [if_pos c2] at h
    cases h
  rw [if_neg c2] at h
  by_cases c3 : a = 3
  · rw [if_pos c3] at h
    cases h
  rw [if_neg c3] at h
  by_cases c4 : a = 4
  · rw [if_pos c4] at h
    cases h
  rw [if_neg c4] at h
  by_cases c5 : a = 5
  · rw [if_pos c5] at h
    cases h
  rw [if_neg c5] at h
  by_cases c6 : a = 6
  · rw [if_pos c6] at h
    cases h
  rw [if_neg c6] at h
  by_cases c7 : a = 7
  · rw [if_pos c7] at h
    cases h
  rw [if_neg c7] at h
  by_cases c8 : a = 8
  · rw [if_pos c8] at h
    cases h
  rw [if_neg c8] at h
  by_cases c9 : a = 9
  · rw [if_pos c9] at h
    cases h
  rw [if_neg c9] at h
  by_cases c10 : a = 10
  · rw [if_pos c10] at h
    cases h
  rw [if_neg c10] at h
  by_cases c11 : a = 11
  · rw [if_pos c11] at h
    cases h
  rw [if_neg c11] at h
  by_cases c12 : a = 12
  · rw [if_pos c12] at h
    cases h
  rw [if_neg c12] at h
  by_cases c13 : a = 13
  · rw [if_pos c13] at h
    cases h
  rw [if_neg c13] at h
  cases h
  decide
theorem er_refusal (d y z : Int32) : ∀ e, qRefusal d y z = .inr e → e ∈ [0] := by
  intro e h
  unfold qRefusal at h
  repeat' split at h
  all_goals (first | (cases h; decide) | (cases h))
theorem er_pos (p : Int32) : ∀ e, qPos p = .inr e → e ∈ [5] := by
  intro e h
  unfold qPos at h
  repeat' split at h
  all_goals (first | (cases h; decide) | (cases h))
theorem er_meanWet (A : Nat → Int32) : ∀ e, qMeanWet A = .inr e → e ∈ [3] := by
  intro e h
  unfold qMeanWet at h
  repeat' split at h
  all_goals (first | (cases h; decide) | (cases h))
theorem er_readShare (A : Nat → Int32) : ∀ e, qReadShare A = .inr e → e ∈ [3] := by
  intro e h
  unfold qReadShare at h
  repeat' split at h
  all_goals (first | (cases h; decide) | (cases h))
end KQU
