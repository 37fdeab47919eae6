/-! The queries -/
section KQU
variable {b x : Nat} {w : FW}
theorem KQ.mk {n : Nat} {es : List Nat} {cx : FW → Option (Int32 ⊕ Nat)} {cm : FW → Option (Int32 × FW)} {r : Int32 ⊕ Nat} (hB : MB w (x + 512)) (J : JP b w x (flW w (x + 512)) (arW w (x + 512)) n) (hc : cx w = some r) (hm : cm (mW w (x + 512) (flW w (x + 512)) (arW w (x + 512))) = some (qV r, mW w (x + 512) (up (flW w (x + 512)) 500 (wK es r)) (arW w (x + 512)))) (he : ∀ e, r = .inr e → e ∈ es) : KQ (b + 60) x es cx cm w := by
  rw [mW_me] at hm
  refine ⟨_, ⟨r, qV r, wK es r, hc, hm, ?_, he, rfl, fun v hv => by rw [hv]; rfl⟩, JJ.q hB J (fun c h1 h2 => up_n h1)⟩
  rw [m_thrown hB, up_s]
/-- what the law asks of a query that refuses nothing -/
def KV (b : Nat) (x : Nat) (cx : FW → Option Int32) (cm : FW → Option (Int32 × FW)) (w : FW) : Prop :=
  ∃ w2, (∃ (rx : Int32) (b9 : Int32), cx w = some rx ∧ cm w = some (b9, w2) ∧ rx = b9) ∧ JJ b w2 x
theorem KV.mk {n : Nat} {cx : FW → Option Int32} {cm : FW → Option (Int32 × FW)} {r : Int32} (hB : MB w (x + 512)) (J : JP b w x (flW w (x + 512)) (arW w (x + 512)) n) (hc : cx w = some r) (hm : cm (mW w (x + 512) (flW w (x + 512)) (arW w (x + 512))) = some (r, mW w (x + 512) (up (flW w (x + 512)) 500 0) (arW w (x + 512)))) : KV (b + 60) x cx cm w := by
  rw [mW_me] at hm
  exact ⟨_, ⟨r, r, hc, hm, rfl⟩, JJ.q hB J (fun c h1 h2 => up_n h1)⟩

theorem er_ticketOf (a c : Int32) (A : Nat → Int32) : ∀ e, qTicketOf a c A = .inr e → e ∈ [2, 1] := by
  intro e h
  unfold qTicketOf at h
  repeat' split at h
  all_goals (first | (cases h; decide) | (cases h))
theorem er_wordAt (a c : Int32) (A : Nat → Int32) : ∀ e, qWordAt a c A = .inr e → e ∈ [2, 5] := by
  intro e h
  unfold qWordAt at h
  repeat' split at h
  all_goals (first | (cases h; decide) | (cases h))
theorem er_halfOf (a : Int32) (h : Nat) (c : Int32) (A : Nat → Int32) : ∀ e, qHalfOf a h c A = .inr e → e ∈ [2, 1] := by
  intro e h
  unfold qHalfOf at h
  repeat' split at h
  all_goals (first | (cases h; decide) | (cases h))
theorem er_readAt (a : Int32) (h : Nat) (c : Int32) (A : Nat → Int32) : ∀ e, qReadAt a h c A = .inr e → e ∈ [2, 5] := by
  intro e h
  unfold qReadAt at h
  repeat' split at h
  all_goals (first | (cases h; decide) | (cases h))
theorem er_doAgree (a : Int32) (A : Nat → Int32) : ∀ e, qDoAgree a A = .inr e → e ∈ [2] := by
  intro e h
  unfold qDoAgree at h
  repeat' split at h
  all_goals (first | (cases h; decide) | (cases h))
theorem er_moodFor (a : Int32) (h : Nat) (A : Nat → Int32) : ∀ e, qMoodFor a h A = .inr e → e ∈ [2, 5] := by
  intro e h
  unfold qMoodFor at h
  repeat' split at h
  all_goals (first | (cases h; decide) | (cases h))
theorem er_would (a : Int32) (h : Nat) (c : Int32) (A : Nat → Int32) : ∀ e, qWould a h c A = .inr e → e ∈ [2, 1, 5] := by
  intro e h
  unfold qWould at h
  repeat' split at h
  all_goals (first | (cases h; decide) | (cases h))
theorem er_likely (a : Int32) (h : Nat) (A : Nat → Int32) : ∀ e, qLikely a h A = .inr e → e ∈ [2, 5] := by
  intro e h
  unfold qLikely at h
  repeat' split at h
  all_goals (first | (cases h; decide) | (cases h))
theorem er_hinders (a : Int32) (h : Nat) (A : Nat → Int32) : ∀ e, qHinders a h A = .inr e → e ∈ [2] := by
  intro e h
  unfold qHinders at h
  repeat' split at h
  all_goals (first | (cases h; decide) | (cases h))
theorem er_daysLeft (a : Int32) (A : Nat → Int32) : ∀ e, qDaysLeft a A = .inr e → e ∈ [2, 5] := by
  intro e h
  unfold qDaysLeft at h
  repeat' split at h
  all_goals (first | (cases h; decide) | (cases h))
theorem er_sharing (a : Int32) (A : Nat → Int32) : ∀ e, qSharing a A = .inr e → e ∈ [2] := by
  intro e h
  unfold qSharing at h
  repeat' split at h
  all_goals (first | (cases h; decide) | (cases h))
theorem er_often (a : Int32) (A : Nat → Int32) : ∀ e, qOften a A = .inr e → e ∈ [1] := by
  intro e h
  unfold qOften at h
  repeat' split at h
  all_goals (first | (cases h; decide) | (cases h))
theorem er_ranked (a c : Int32) (A : Nat → Int32) : ∀ e, qRanked a c A = .inr e → e ∈ [1, 5] := by
  intro e h
  unfold qRanked at h
  repeat' split at h
  all_goals (first | (cases h; decide) | (cases h))
theorem er_account (a l n : Int32) (A : Nat → Int32) : ∀ e, qAccount a l n A = .inr e → e ∈ [1] := by
  intro e h
  unfold qAccount at h
  by_cases c0 : a = 0
  · rw [if_pos c0] at h
    cases h
  rw [if_neg c0] at h
  by_cases c1 : a = 1
  · rw [if_pos c1] at h
    cases h
  rw [if_neg c1] at h
  by_cases c2 : a = 2
  · rw [if_pos c2] at h
    cases h
  rw [if_neg c2] at h
  by_cases c3 : a = 3
  · rw [if_pos c3] at h
    cases h
  rw [if_neg c3] at h
  by_cases c4 : a = 4
  · rw [if_pos c4] at h
    cases h
  rw [if_neg c4] at h
  by_cases c5 : a = 5
  · rw [if_pos c5] at h
    cases h
  rw [if_neg c5] at h
  by_cases c6 : a = 6
  · rw [if_pos c6] at h
    cases h
  rw [if_neg c6] at h
  by_cases c7 : a = 7
  · rw [if_pos c7] at h
    cases h
  rw [if_neg c7] at h
  by_cases c8 : a = 8
  · rw [if_pos c8] at h
    cases h
  rw [if_neg c8] at h
  by_cases c9 : a = 9
  · rw [if_pos c9] at h
    cases h
  rw [if_neg c9] at h
  by_cases c10 : a = 10
  · rw [if_pos c10] at h
    cases h
  rw [if_neg c10] at h
  by_cases c11 : a = 11
  · rw [if_pos c11] at h
    cases h
  rw [if_neg c11] at h
  by_cases c12 : a = 12
  · rw [if_pos c12] at h
    cases h
  rw [if_neg c12] at h
  by_cases c13 : a = 13
  · rw [if_pos c13] at h
    cases h
  rw [if_neg c13] at h
  cases h
  decide
theorem er_refusal (d y z : Int32) : ∀ e, qRefusal d y z = .inr e → e ∈ [0] := by
  intro e h
  unfold qRefusal at h
  repeat' split at h
  all_goals (first | (cases h; decide) | (cases h))
theorem er_pos (p : Int32) : ∀ e, qPos p = .inr e → e ∈ [5] := by
  intro e h
  unfold qPos at h
  repeat' split at h
  all_goals (first | (cases h; decide) | (cases h))
theorem er_meanWet (A : Nat → Int32) : ∀ e, qMeanWet A = .inr e → e ∈ [3] := by
  intro e h
  unfold qMeanWet at h
  repeat' split at h
  all_goals (first | (cases h; decide) | (cases h))
theorem er_readShare (A : Nat → Int32) : ∀ e, qReadShare A = .inr e → e ∈ [3] := by
  intro e h
  unfold qReadShare at h
  repeat' split at h
  all_goals (first | (cases h; decide) | (cases h))
theorem k_ticketOf (hJ : JJ b w x) (a c : Int32) : KQ (b + 60) x [2, 1] (F_X4_ticketOf x a c) (F_X5_ticketOf (x + 512) a c) w := by
  obtain ⟨hB, n, J⟩ := hJ
  obtain ⟨C, h5, hN, hD⟩ := id J
  have X := C.X
  have hA := C.2.2.1
  exact KQ.mk hB J (cq_ticketOf X a c) (mq_ticketOf hB hA a c) (er_ticketOf a c _)
theorem k_wordAt (hJ : JJ b w x) (a c : Int32) : KQ (b + 60) x [2, 5] (F_X4_wordAt x a c) (F_X5_wordAt (x + 512) a c) w := by
  obtain ⟨hB, n, J⟩ := hJ
  obtain ⟨C, h5, hN, hD⟩ := id J
  have X := C.X
  have hA := C.2.2.1
  exact KQ.mk hB J (cq_wordAt X a c) (mq_wordAt hB hA a c) (er_wordAt a c _)
theorem k_halfOf (hJ : JJ b w x) (a z c : Int32) : KQ (b + 60) x [2, 1] (F_X4_halfOf x a (zz z) c) (F_X5_halfOf (x + 512) a (zz z) c) w := by
  obtain ⟨hB, n, J⟩ := hJ
  obtain ⟨C, h5, hN, hD⟩ := id J
  have X := C.X
  have hA := C.2.2.1
  obtain ⟨h, hh, hz⟩ := zz2 z
  exact KQ.mk hB J (cq_halfOf X a hh hz c) (mq_halfOf hB hA a hh hz c) (er_halfOf a h c _)
theorem k_readAt (hJ : JJ b w x) (a z c : Int32) : KQ (b + 60) x [2, 5] (F_X4_readAt x a (zz z) c) (F_X5_readAt (x + 512) a (zz z) c) w := by
  obtain ⟨hB, n, J⟩ := hJ
  obtain ⟨C, h5, hN, hD⟩ := id J
  have X := C.X
  have hA := C.2.2.1
  obtain ⟨h, hh, hz⟩ := zz2 z
  exact KQ.mk hB J (cq_readAt X a hh hz c) (mq_readAt hB hA a hh hz c) (er_readAt a h c _)
theorem k_doAgree (hJ : JJ b w x) (a z : Int32) : KQ (b + 60) x [2] (F_X4_doAgree x a (zz z)) (F_X5_doAgree (x + 512) a (zz z)) w := by
  obtain ⟨hB, n, J⟩ := hJ
  obtain ⟨C, h5, hN, hD⟩ := id J
  have X := C.X
  have hA := C.2.2.1
  exact KQ.mk hB J (cq_doAgree X a _) (mq_doAgree hB hA a _) (er_doAgree a _)
theorem k_moodFor (hJ : JJ b w x) (a z : Int32) : KQ (b + 60) x [2, 5] (F_X4_moodFor x a (zz z)) (F_X5_moodFor (x + 512) a (zz z)) w := by
  obtain ⟨hB, n, J⟩ := hJ
  obtain ⟨C, h5, hN, hD⟩ := id J
  have X := C.X
  have hA := C.2.2.1
  obtain ⟨h, hh, hz⟩ := zz2 z
  exact KQ.mk hB J (cq_moodFor X a hh hz) (mq_moodFor hB hA a hh hz) (er_moodFor a h _)
theorem k_would (hJ : JJ b w x) (a z c : Int32) : KQ (b + 60) x [2, 1, 5] (F_X4_would x a (zz z) c) (F_X5_would (x + 512) a (zz z) c) w := by
  obtain ⟨hB, n, J⟩ := hJ
  obtain ⟨C, h5, hN, hD⟩ := id J
  have X := C.X
  have hA := C.2.2.1
  obtain ⟨h, hh, hz⟩ := zz2 z
  exact KQ.mk hB J (cq_would X a hh hz c) (mq_would hB hA a hh hz c) (er_would a h c _)
theorem k_likely (hJ : JJ b w x) (a z : Int32) : KQ (b + 60) x [2, 5] (F_X4_likely x a (zz z)) (F_X5_likely (x + 512) a (zz z)) w := by
  obtain ⟨hB, n, J⟩ := hJ
  obtain ⟨C, h5, hN, hD⟩ := id J
  have X := C.X
  have hA := C.2.2.1
  obtain ⟨h, hh, hz⟩ := zz2 z
  exact KQ.mk hB J (cq_likely X a hh hz) (mq_likely hB hA a hh hz) (er_likely a h _)
theorem k_hinders (hJ : JJ b w x) (a z : Int32) : KQ (b + 60) x [2] (F_X4_hinders x a (zz z)) (F_X5_hinders (x + 512) a (zz z)) w := by
  obtain ⟨hB, n, J⟩ := hJ
  obtain ⟨C, h5, hN, hD⟩ := id J
  have X := C.X
  have hA := C.2.2.1
  obtain ⟨h, hh, hz⟩ := zz2 z
  obtain ⟨fl', e1, e2, e3⟩ := mq_hinders (fl := flW w (x + 512)) hB hA a hh hz
  rw [mW_me] at e1
  refine ⟨_, ⟨_, _, _, cq_hinders X a hh hz, e1, m_thrown hB, er_hinders a h _, e2, fun v hv => by rw [hv]; rfl⟩, JJ.q hB J e3⟩
theorem k_daysLeft (hJ : JJ b w x) (a : Int32) : KQ (b + 60) x [2, 5] (F_X4_daysLeft x a) (F_X5_daysLeft (x + 512) a) w := by
  obtain ⟨hB, n, J⟩ := hJ
  obtain ⟨C, h5, hN, hD⟩ := id J
  have X := C.X
  have hA := C.2.2.1
  exact KQ.mk hB J (cq_daysLeft X a) (mq_daysLeft hB hA a) (er_daysLeft a _)
theorem k_sharing (hJ : JJ b w x) (a : Int32) : KQ (b + 60) x [2] (F_X4_sharing x a) (F_X5_sharing (x + 512) a) w := by
  obtain ⟨hB, n, J⟩ := hJ
  obtain ⟨C, h5, hN, hD⟩ := id J
  have X := C.X
  have hA := C.2.2.1
  exact KQ.mk hB J (cq_sharing X a) (mq_sharing hB hA a) (er_sharing a _)
theorem k_often (hJ : JJ b w x) (a : Int32) : KQ (b + 60) x [1] (F_X4_often x a) (F_X5_often (x + 512) a) w := by
  obtain ⟨hB, n, J⟩ := hJ
  obtain ⟨C, h5, hN, hD⟩ := id J
  have X := C.X
  have hA := C.2.2.1
  exact KQ.mk hB J (cq_often X a) (mq_often hB hA a) (er_often a _)
theorem k_ranked (hJ : JJ b w x) (a c : Int32) : KQ (b + 60) x [1, 5] (F_X4_ranked x a c) (F_X5_ranked (x + 512) a c) w := by
  obtain ⟨hB, n, J⟩ := hJ
  obtain ⟨C, h5, hN, hD⟩ := id J
  have X := C.X
  have hA := C.2.2.1
  exact KQ.mk hB J (cq_ranked X a c) (mq_ranked hB hA a c) (er_ranked a c _)
theorem k_words (hJ : JJ b w x) : KV (b + 60) x (F_X4_words x) (F_X5_words (x + 512)) w := by
  obtain ⟨hB, n, J⟩ := hJ
  exact KV.mk hB J (cq_words J.1.X) (mq_words hB J.1.2.2.1)
theorem k_isRight (hJ : JJ b w x) : KV (b + 60) x (F_X4_isRight x) (F_X5_isRight (x + 512)) w := by
  obtain ⟨hB, n, J⟩ := hJ
  exact KV.mk hB J (cq_isRight J.1.X) (mq_isRight hB J.1.2.2.1)
theorem k_account (hJ : JJ b w x) (a : Int32) : KQ (b + 60) x [1] (F_X4_account x a) (F_X5_account (x + 512) a) w := by
  obtain ⟨hB, n, J⟩ := hJ
  obtain ⟨C, h5, hN, hD⟩ := id J
  have X := C.X
  have hA := C.2.2.1
  obtain ⟨L, -, L2, L3, -⟩ := hN.2.2.2.2.1
  have e8 : gI w 408 x 0 = flW w (x + 512) 511 := L2.trans L3.symm
  have e5 : gI w 405 x 0 = flW w (x + 512) 505 := C.2.2.2.1.trans h5.symm
  exact KQ.mk hB J (cq_account X a) (by rw [e8, e5]; exact mq_account hB hA a) (er_account a _ _ _)
theorem k_refusal (hJ : JJ b w x) (d : Int32) : KQ (b + 60) x [0] (F_X4_refusal x d) (F_X5_refusal (x + 512) d) w := by
  obtain ⟨hB, n, J⟩ := hJ
  obtain ⟨C, h5, hN, hD⟩ := id J
  have X := C.X
  have hA := C.2.2.1
  exact KQ.mk hB J (cq_refusal C.1.1 d) (by rw [hN.1, hN.2.1]; exact mq_refusal hB d) (er_refusal d _ _)
theorem k_errorPosition (hJ : JJ b w x) : KQ (b + 60) x [5] (F_X4_errorPosition x) (F_X5_errorPosition (x + 512)) w := by
  obtain ⟨hB, n, J⟩ := hJ
  obtain ⟨C, h5, hN, hD⟩ := id J
  have X := C.X
  have hA := C.2.2.1
  exact KQ.mk hB J (cq_errorPosition C.1.1) (by rw [hN.2.2.1]; exact mq_errorPosition hB) (er_pos _)
theorem k_refusedItem (hJ : JJ b w x) : KQ (b + 60) x [5] (F_X4_refusedItem x) (F_X5_refusedItem (x + 512)) w := by
  obtain ⟨hB, n, J⟩ := hJ
  obtain ⟨C, h5, hN, hD⟩ := id J
  have X := C.X
  have hA := C.2.2.1
  exact KQ.mk hB J (cq_refusedItem C.1.1) (by rw [hN.2.2.2.1]; exact mq_refusedItem hB) (er_pos _)
theorem k_meanWet (hJ : JJ b w x) : ∃ w2, (∃ (rx : UInt64 ⊕ Nat) (b9 : UInt64) (t : Int32), F_X4_meanWet x w = some rx ∧ F_X5_meanWet (x + 512) w = some (b9, w2) ∧ F_X5_thrown (x + 512) w2 = some t ∧ (∀ e, rx = .inr e → e ∈ [3]) ∧ t = wK [3] rx ∧ (∀ v, rx = .inl v → v = b9 ∧ FP.dcmp v b9 = some .eq)) ∧ JJ (b + 60) w2 x := by
  obtain ⟨hB, n, J⟩ := hJ
  have hA := J.1.2.2.1
  have hm := mq_meanWet (fl := flW w (x + 512)) hB hA
  rw [mW_me] at hm
  refine ⟨_, ⟨_, _, _, cq_meanWet J.1.X, hm, m_thrown hB, er_meanWet _, up_s _ _ _, fun v hv => ?_⟩, JJ.q hB J (fun c h1 h2 => up_n h1)⟩
  have h0 : ¬ arW w (x + 512) 1 0 = 0 := fun z => by
    unfold qMeanWet at hv
    rw [if_pos z] at hv
    cases hv
  have e : qMeanWet (arW w (x + 512) 1) = .inl (FP.ddiv (FP.i2d (aWetMany (arW w (x + 512) 1))) (FP.i2d (2 * arW w (x + 512) 1 0))) := if_neg h0
  rw [e] at hv ⊢
  cases hv
  exact ⟨rfl, (meanWet_ok hA h0).2⟩
theorem k_readShare (hJ : JJ b w x) : ∃ w2, (∃ (rx : UInt32 ⊕ Nat) (b9 : UInt32) (t : Int32), F_X4_readShare x w = some rx ∧ F_X5_readShare (x + 512) w = some (b9, w2) ∧ F_X5_thrown (x + 512) w2 = some t ∧ (∀ e, rx = .inr e → e ∈ [3]) ∧ t = wK [3] rx ∧ (∀ v, rx = .inl v → v = b9 ∧ vf_n64 (FP.f2d v) ∧ FP.dcmp (FP.f2d v) (FP.f2d b9) = some .eq)) ∧ JJ (b + 60) w2 x := by
  obtain ⟨hB, n, J⟩ := hJ
  have hA := J.1.2.2.1
  have hm := mq_readShare (fl := flW w (x + 512)) hB hA
  rw [mW_me] at hm
  refine ⟨_, ⟨_, _, _, cq_readShare J.1.X, hm, m_thrown hB, er_readShare _, up_s _ _ _, fun v hv => ?_⟩, JJ.q hB J (fun c h1 h2 => up_n h1)⟩
  have h0 : ¬ aPunched (arW w (x + 512) 1) = 0 := fun z => by
    unfold qReadShare at hv
    rw [if_pos z] at hv
    cases hv
  have e : qReadShare (arW w (x + 512) 1) = .inl (FP.fdiv (FP.i2f (aReadMany (arW w (x + 512) 1))) (FP.i2f (aPunched (arW w (x + 512) 1)))) := if_neg h0
  rw [e] at hv ⊢
  cases hv
  exact ⟨rfl, (readShare_ok hA h0).2.1, (readShare_ok hA h0).2.2⟩
end KQU
