/-! The law's questions, answered out of an office's array -/
def lE (e : Nat) : Int32 := if e = 0 then -79 else if e = 1 then -78 else if e = 2 then -77 else if e = 3 then -74 else if e = 4 then -76 else -75
def lq (r : Int32 ⊕ Nat) : Int32 := match r with
  | .inl v => v
  | .inr e => lE e
theorem lq_l (v : Int32) : lq (.inl v) = v := rfl
theorem lq_r (e : Nat) : lq (.inr e) = lE e := rfl
section LQ
variable {w : FW} {x o : Nat} {A : Nat → Int32}
theorem e_ticketOf (X : XO w x o A) (a b : Int32) : F_L_ticketOf x a b w = some (lq (qTicketOf a b A)) := by
  unfold F_L_ticketOf
  rw [fg_t X.1, cq_ticketOf X a b, Option.bind_some]
  unfold qTicketOf
  (repeat' split) <;> rfl
theorem e_wordAt (X : XO w x o A) (a p : Int32) : F_L_wordAt x a p w = some (lq (qWordAt a p A)) := by
  unfold F_L_wordAt
  rw [fg_t X.1, cq_wordAt X a p, Option.bind_some]
  unfold qWordAt
  (repeat' split) <;> rfl
theorem e_halfOf (X : XO w x o A) (a : Int32) {h : Nat} (hh : h < 2) {z : Int32} (hz : zz z = nI h) (b : Int32) : F_L_halfOf x a z b w = some (lq (qHalfOf a h b A)) := by
  unfold F_L_halfOf
  rw [fg_t X.1, cq_halfOf X a hh hz b, Option.bind_some]
  unfold qHalfOf
  (repeat' split) <;> rfl
theorem e_readAt (X : XO w x o A) (a : Int32) {h : Nat} (hh : h < 2) {z : Int32} (hz : zz z = nI h) (p : Int32) : F_L_readAt x a z p w = some (lq (qReadAt a h p A)) := by
  unfold F_L_readAt
  rw [fg_t X.1, cq_readAt X a hh hz p, Option.bind_some]
  unfold qReadAt
  (repeat' split) <;> rfl
theorem e_moodFor (X : XO w x o A) (a : Int32) {h : Nat} (hh : h < 2) {z : Int32} (hz : zz z = nI h) : F_L_moodFor x a z w = some (lq (qMoodFor a h A)) := by
  unfold F_L_moodFor
  rw [fg_t X.1, cq_moodFor X a hh hz, Option.bind_some]
  unfold qMoodFor
  (repeat' split) <;> rfl
theorem e_would (X : XO w x o A) (a : Int32) {h : Nat} (hh : h < 2) {z : Int32} (hz : zz z = nI h) (b : Int32) : F_L_would x a z b w = some (lq (qWould a h b A)) := by
  unfold F_L_would
  rw [fg_t X.1, cq_would X a hh hz b, Option.bind_some]
  unfold qWould
  (repeat' split) <;> rfl
theorem e_likely (X : XO w x o A) (a : Int32) {h : Nat} (hh : h < 2) {z : Int32} (hz : zz z = nI h) : F_L_likely x a z w = some (lq (qLikely a h A)) := by
  unfold F_L_likely
  rw [fg_t X.1, cq_likely X a hh hz, Option.bind_some]
  unfold qLikely
  (repeat' split) <;> rfl
theorem e_hinders (X : XO w x o A) (a : Int32) {h : Nat} (hh : h < 2) {z : Int32} (hz : zz z = nI h) : F_L_hinders x a z w = some (lq (qHinders a h A)) := by
  unfold F_L_hinders
  rw [fg_t X.1, cq_hinders X a hh hz, Option.bind_some]
  unfold qHinders
  (repeat' split) <;> rfl
theorem e_daysLeft (X : XO w x o A) (a : Int32) : F_L_daysLeft x a w = some (lq (qDaysLeft a A)) := by
  unfold F_L_daysLeft
  rw [fg_t X.1, cq_daysLeft X a, Option.bind_some]
  unfold qDaysLeft
  (repeat' split) <;> rfl
theorem e_sharing (X : XO w x o A) (a : Int32) : F_L_sharing x a w = some (lq (qSharing a A)) := by
  unfold F_L_sharing
  rw [fg_t X.1, cq_sharing X a, Option.bind_some]
  unfold qSharing
  (repeat' split) <;> rfl
theorem e_often (X : XO w x o A) (c : Int32) : F_L_often x c w = some (lq (qOften c A)) := by
  unfold F_L_often
  rw [fg_t X.1, cq_often X c, Option.bind_some]
  unfold qOften
  (repeat' split) <;> rfl
theorem e_ranked (X : XO w x o A) (m p : Int32) : F_L_ranked x m p w = some (lq (qRanked m p A)) := by
  unfold F_L_ranked
  rw [fg_t X.1, cq_ranked X m p, Option.bind_some]
  unfold qRanked
  (repeat' split) <;> rfl
theorem e_account (X : XO w x o A) (b : Int32) : F_L_account x b w = some (lq (qAccount b (gI w 408 x 0) (gI w 405 x 0) A)) := by
  unfold F_L_account
  rw [fg_t X.1, cq_account X b, Option.bind_some]
  unfold qAccount
  by_cases c0 : b = 0
  · rw [if_pos c0]
    rfl
  rw [if_neg c0]
  by_cases c1 : b = 1
  · rw [if_pos c1]
    rfl
  rw [if_neg c1]
  by_cases c2 : b = 2
  · rw [if_pos c2]
    rfl
  rw [if_neg c2]
  by_cases c3 : b = 3
  · rw [if_pos c3]
    rfl
  rw [if_neg c3]
  by_cases c4 : b = 4
  · rw [if_pos c4]
    rfl
  rw [if_neg c4]
  by_cases c5 : b = 5
  · rw [if_pos c5]
    rfl
  rw [if_neg c5]
  by_cases c6 : b = 6
  · rw [if_pos c6]
    rfl
  rw [if_neg c6]
  by_cases c7 : b = 7
  · rw [if_pos c7]
    rfl
  rw [if_neg c7]
  by_cases c8 : b = 8
  · rw [if_pos c8]
    rfl
  rw [if_neg c8]
  by_cases c9 : b = 9
  · rw [if_pos c9]
    rfl
  rw [if_neg c9]
  by_cases c10 : b = 10
  · rw [if_pos c10]
    rfl
  rw [if_neg c10]
  by_cases c11 : b = 11
  · rw [if_pos c11]
    rfl
  rw [if_neg c11]
  by_cases c12 : b = 12
  · rw [if_pos c12]
    rfl
  rw [if_neg c12]
  by_cases c13 : b = 13
  · rw [if_pos c13]
    rfl
  rw [if_neg c13]
  rfl
theorem e_doAgree (X : XO w x o A) (a b : Int32) : F_L_doAgree x a b w = some (match qDoAgree a A with
    | .inl v => if v = 0 then 0 else 1
    | .inr e => lE e) := by
  unfold F_L_doAgree
  rw [fg_t X.1, cq_doAgree X a b, Option.bind_some]
  unfold qDoAgree
  split
  · rfl
  · rfl
theorem e_refusal (x1 : w.1 x = 5) (d : Int32) : F_L_refusal x d w = some (lq (qRefusal d (gI w 411 x 0) (gI w 412 x 0))) := by
  unfold F_L_refusal
  rw [fg_t x1, cq_refusal x1 d, Option.bind_some]
  unfold qRefusal
  (repeat' split) <;> rfl
theorem e_meanWet (X : XO w x o A) : F_L_meanWet x w = some (match qMeanWet A with
    | .inl v => v
    | .inr _ => 13858279740860792832) := by
  unfold F_L_meanWet
  rw [fg_t X.1, cq_meanWet X, Option.bind_some]
  unfold qMeanWet
  split
  · rfl
  · rfl
theorem e_readShare (X : XO w x o A) : F_L_readShare x w = some (match qReadShare A with
    | .inl v => v
    | .inr _ => 3264479232) := by
  unfold F_L_readShare
  rw [fg_t X.1, cq_readShare X, Option.bind_some]
  unfold qReadShare
  split
  · rfl
  · rfl
theorem tin (hA : WA A) {t : Nat} (ht : t < aN A) : ¬ inn (nI t) 0 (A 0 - 1) = 0 ∧ (nI t).toNatClampNeg = t := by
  have h8 := hA.n.2.1
  refine ⟨?_, nI_clamp (by omega)⟩
  rw [hA.n.1, inn_t (by omega) ht]
  decide
theorem e_t0 (X : XO w x o A) (hA : WA A) {t : Nat} (ht : t < aN A) : F_L_ticketOf x (nI t) 0 w = some (aT A t 0) := by
  obtain ⟨h1, h2⟩ := tin hA ht
  rw [e_ticketOf X]
  unfold qTicketOf
  rw [if_neg h1, h2, if_pos rfl, lq_l]
theorem e_t1 (X : XO w x o A) (hA : WA A) {t : Nat} (ht : t < aN A) : F_L_ticketOf x (nI t) 1 w = some (aVowels A t) := by
  obtain ⟨h1, h2⟩ := tin hA ht
  rw [e_ticketOf X]
  unfold qTicketOf
  rw [if_neg h1, h2, if_neg (show ¬ (1 : Int32) = 0 by decide), if_pos rfl, lq_l]
theorem e_t2 (X : XO w x o A) (hA : WA A) {t : Nat} (ht : t < aN A) : F_L_ticketOf x (nI t) 2 w = some (aT A t 7) := by
  obtain ⟨h1, h2⟩ := tin hA ht
  rw [e_ticketOf X]
  unfold qTicketOf
  rw [if_neg h1, h2, if_neg (show ¬ (2 : Int32) = 0 by decide), if_neg (show ¬ (2 : Int32) = 1 by decide), if_pos rfl, lq_l]
theorem e_t3 (X : XO w x o A) (hA : WA A) {t : Nat} (ht : t < aN A) : F_L_ticketOf x (nI t) 3 w = some (aT A t 8) := by
  obtain ⟨h1, h2⟩ := tin hA ht
  rw [e_ticketOf X]
  unfold qTicketOf
  rw [if_neg h1, h2, if_neg (show ¬ (3 : Int32) = 0 by decide), if_neg (show ¬ (3 : Int32) = 1 by decide), if_neg (show ¬ (3 : Int32) = 2 by decide), if_pos rfl, lq_l]
theorem e_t4 (X : XO w x o A) (hA : WA A) {t : Nat} (ht : t < aN A) : F_L_ticketOf x (nI t) 4 w = some (aT A t 9) := by
  obtain ⟨h1, h2⟩ := tin hA ht
  rw [e_ticketOf X]
  unfold qTicketOf
  rw [if_neg h1, h2, if_neg (show ¬ (4 : Int32) = 0 by decide), if_neg (show ¬ (4 : Int32) = 1 by decide), if_neg (show ¬ (4 : Int32) = 2 by decide), if_neg (show ¬ (4 : Int32) = 3 by decide), if_pos rfl, lq_l]
theorem e_t5 (X : XO w x o A) (hA : WA A) {t : Nat} (ht : t < aN A) : F_L_ticketOf x (nI t) 5 w = some (aT A t 10) := by
  obtain ⟨h1, h2⟩ := tin hA ht
  rw [e_ticketOf X]
  unfold qTicketOf
  rw [if_neg h1, h2, if_neg (show ¬ (5 : Int32) = 0 by decide), if_neg (show ¬ (5 : Int32) = 1 by decide), if_neg (show ¬ (5 : Int32) = 2 by decide), if_neg (show ¬ (5 : Int32) = 3 by decide), if_neg (show ¬ (5 : Int32) = 4 by decide), if_pos rfl, lq_l]
theorem e_t6 (X : XO w x o A) (hA : WA A) {t : Nat} (ht : t < aN A) : F_L_ticketOf x (nI t) 6 w = some (aT A t 11) := by
  obtain ⟨h1, h2⟩ := tin hA ht
  rw [e_ticketOf X]
  unfold qTicketOf
  rw [if_neg h1, h2, if_neg (show ¬ (6 : Int32) = 0 by decide), if_neg (show ¬ (6 : Int32) = 1 by decide), if_neg (show ¬ (6 : Int32) = 2 by decide), if_neg (show ¬ (6 : Int32) = 3 by decide), if_neg (show ¬ (6 : Int32) = 4 by decide), if_neg (show ¬ (6 : Int32) = 5 by decide), if_pos rfl, lq_l]
theorem e_h0 (X : XO w x o A) (hA : WA A) {t : Nat} (ht : t < aN A) {h : Nat} (hh : h < 2) {z : Int32} (hz : zz z = nI h) : F_L_halfOf x (nI t) z 0 w = some (pun A t h) := by
  obtain ⟨h1, h2⟩ := tin hA ht
  rw [e_halfOf X _ hh hz]
  unfold qHalfOf
  rw [if_neg h1, h2, if_pos rfl, lq_l]
theorem e_h1 (X : XO w x o A) (hA : WA A) {t : Nat} (ht : t < aN A) {h : Nat} (hh : h < 2) {z : Int32} (hz : zz z = nI h) : F_L_halfOf x (nI t) z 1 w = some (aH A t h 0) := by
  obtain ⟨h1, h2⟩ := tin hA ht
  rw [e_halfOf X _ hh hz]
  unfold qHalfOf
  rw [if_neg h1, h2, if_neg (show ¬ (1 : Int32) = 0 by decide), if_pos rfl, lq_l]
theorem e_h2 (X : XO w x o A) (hA : WA A) {t : Nat} (ht : t < aN A) {h : Nat} (hh : h < 2) {z : Int32} (hz : zz z = nI h) : F_L_halfOf x (nI t) z 2 w = some (aH A t h 1) := by
  obtain ⟨h1, h2⟩ := tin hA ht
  rw [e_halfOf X _ hh hz]
  unfold qHalfOf
  rw [if_neg h1, h2, if_neg (show ¬ (2 : Int32) = 0 by decide), if_neg (show ¬ (2 : Int32) = 1 by decide), if_pos rfl, lq_l]
theorem e_h3 (X : XO w x o A) (hA : WA A) {t : Nat} (ht : t < aN A) {h : Nat} (hh : h < 2) {z : Int32} (hz : zz z = nI h) : F_L_halfOf x (nI t) z 3 w = some (aHolesOf A t h) := by
  obtain ⟨h1, h2⟩ := tin hA ht
  rw [e_halfOf X _ hh hz]
  unfold qHalfOf
  rw [if_neg h1, h2, if_neg (show ¬ (3 : Int32) = 0 by decide), if_neg (show ¬ (3 : Int32) = 1 by decide), if_neg (show ¬ (3 : Int32) = 2 by decide), if_pos rfl, lq_l]
theorem e_h4 (X : XO w x o A) (hA : WA A) {t : Nat} (ht : t < aN A) {h : Nat} (hh : h < 2) {z : Int32} (hz : zz z = nI h) : F_L_halfOf x (nI t) z 4 w = some (aLeftOf A t h) := by
  obtain ⟨h1, h2⟩ := tin hA ht
  rw [e_halfOf X _ hh hz]
  unfold qHalfOf
  rw [if_neg h1, h2, if_neg (show ¬ (4 : Int32) = 0 by decide), if_neg (show ¬ (4 : Int32) = 1 by decide), if_neg (show ¬ (4 : Int32) = 2 by decide), if_neg (show ¬ (4 : Int32) = 3 by decide), if_pos rfl, lq_l]
theorem e_h5 (X : XO w x o A) (hA : WA A) {t : Nat} (ht : t < aN A) {h : Nat} (hh : h < 2) {z : Int32} (hz : zz z = nI h) : F_L_halfOf x (nI t) z 5 w = some (aH A t h 2) := by
  obtain ⟨h1, h2⟩ := tin hA ht
  rw [e_halfOf X _ hh hz]
  unfold qHalfOf
  rw [if_neg h1, h2, if_neg (show ¬ (5 : Int32) = 0 by decide), if_neg (show ¬ (5 : Int32) = 1 by decide), if_neg (show ¬ (5 : Int32) = 2 by decide), if_neg (show ¬ (5 : Int32) = 3 by decide), if_neg (show ¬ (5 : Int32) = 4 by decide), if_pos rfl, lq_l]
theorem e_h6 (X : XO w x o A) (hA : WA A) {t : Nat} (ht : t < aN A) {h : Nat} (hh : h < 2) {z : Int32} (hz : zz z = nI h) : F_L_halfOf x (nI t) z 6 w = some (aH A t h 3) := by
  obtain ⟨h1, h2⟩ := tin hA ht
  rw [e_halfOf X _ hh hz]
  unfold qHalfOf
  rw [if_neg h1, h2, if_neg (show ¬ (6 : Int32) = 0 by decide), if_neg (show ¬ (6 : Int32) = 1 by decide), if_neg (show ¬ (6 : Int32) = 2 by decide), if_neg (show ¬ (6 : Int32) = 3 by decide), if_neg (show ¬ (6 : Int32) = 4 by decide), if_neg (show ¬ (6 : Int32) = 5 by decide), if_pos rfl, lq_l]
theorem e_h7 (X : XO w x o A) (hA : WA A) {t : Nat} (ht : t < aN A) {h : Nat} (hh : h < 2) {z : Int32} (hz : zz z = nI h) : F_L_halfOf x (nI t) z 7 w = some (if pun A t h = 0 then 0 else aRight A t h (aH A t h 1) (aH A t h 0)) := by
  obtain ⟨h1, h2⟩ := tin hA ht
  rw [e_halfOf X _ hh hz]
  unfold qHalfOf
  rw [if_neg h1, h2, if_neg (show ¬ (7 : Int32) = 0 by decide), if_neg (show ¬ (7 : Int32) = 1 by decide), if_neg (show ¬ (7 : Int32) = 2 by decide), if_neg (show ¬ (7 : Int32) = 3 by decide), if_neg (show ¬ (7 : Int32) = 4 by decide), if_neg (show ¬ (7 : Int32) = 5 by decide), if_neg (show ¬ (7 : Int32) = 6 by decide), if_pos rfl, lq_l]
theorem e_word (X : XO w x o A) (hA : WA A) {t k : Nat} (ht : t < aN A) (hk : k < aLen A t) : F_L_wordAt x (nI t) (nI k) w = some (aL A t k) := by
  obtain ⟨h1, h2⟩ := tin hA ht
  obtain ⟨w1, w2, w3, -⟩ := tick_word (hA.n.2.2 t ht)
  rw [e_wordAt X]
  unfold qWordAt
  rw [if_neg h1, h2, w1, if_neg (by rw [inn_t (by omega) hk]; decide), nI_clamp (by omega), lq_l]
theorem e_read (X : XO w x o A) (hA : WA A) {t k : Nat} (ht : t < aN A) {h : Nat} (hh : h < 2) {z : Int32} (hz : zz z = nI h) (hp : ¬ pun A t h = 0) (hk : k < aLen A t) : F_L_readAt x (nI t) z (nI k) w = some (aReads A t h k) := by
  obtain ⟨h1, h2⟩ := tin hA ht
  obtain ⟨w1, w2, w3, -⟩ := tick_word (hA.n.2.2 t ht)
  rw [e_readAt X _ hh hz]
  unfold qReadAt
  rw [if_neg h1, h2, if_neg hp, w1, if_neg (by rw [inn_t (by omega) hk]; decide), nI_clamp (by omega), lq_l]
theorem e_readE (X : XO w x o A) (hA : WA A) {t : Nat} (ht : t < aN A) {h : Nat} (hh : h < 2) {z : Int32} (hz : zz z = nI h) : F_L_readAt x (nI t) z (aT A t 0) w = some (-75) := by
  obtain ⟨h1, h2⟩ := tin hA ht
  obtain ⟨w1, w2, w3, -⟩ := tick_word (hA.n.2.2 t ht)
  rw [e_readAt X _ hh hz]
  unfold qReadAt
  rw [if_neg h1, h2]
  by_cases hp : pun A t h = 0
  · rw [if_pos hp]
    rfl
  · have e : inn (aT A t 0) 0 (aT A t 0 - 1) = 0 := by
      rw [w1, inn_le (by omega), if_neg (nI_pos (by omega)), if_pos (nI_le (Nat.le_refl _) (by omega))]
    rw [if_neg hp, if_pos e]
    rfl
theorem e_readN (X : XO w x o A) (hA : WA A) {t : Nat} (ht : t < aN A) {h : Nat} (hh : h < 2) {z : Int32} (hz : zz z = nI h) (hp : pun A t h = 0) (p : Int32) : F_L_readAt x (nI t) z p w = some (-75) := by
  obtain ⟨h1, h2⟩ := tin hA ht
  rw [e_readAt X _ hh hz]
  unfold qReadAt
  rw [if_neg h1, h2, if_pos hp]
  rfl
theorem e_moodN (X : XO w x o A) (hA : WA A) {t : Nat} (ht : t < aN A) {h : Nat} (hh : h < 2) {z : Int32} (hz : zz z = nI h) (hp : pun A t h = 0) : F_L_moodFor x (nI t) z w = some (-75) := by
  obtain ⟨h1, h2⟩ := tin hA ht
  rw [e_moodFor X _ hh hz]
  unfold qMoodFor
  rw [if_neg h1, h2, if_pos hp]
  rfl
theorem e_likelyN (X : XO w x o A) (hA : WA A) {t : Nat} (ht : t < aN A) {h : Nat} (hh : h < 2) {z : Int32} (hz : zz z = nI h) (hp : pun A t h = 0) : F_L_likely x (nI t) z w = some (-75) := by
  obtain ⟨h1, h2⟩ := tin hA ht
  rw [e_likely X _ hh hz]
  unfold qLikely
  rw [if_neg h1, h2, if_pos hp]
  rfl
theorem e_likelyP (X : XO w x o A) (hA : WA A) {t : Nat} (ht : t < aN A) {h : Nat} (hh : h < 2) {z : Int32} (hz : zz z = nI h) (hp : ¬ pun A t h = 0) : F_L_likely x (nI t) z w = some (nI (aBest A t h (aN A))) := by
  obtain ⟨h1, h2⟩ := tin hA ht
  rw [e_likely X _ hh hz]
  unfold qLikely
  rw [if_neg h1, h2, if_neg hp, lq_l]
theorem e_share (X : XO w x o A) (hA : WA A) {t : Nat} (ht : t < aN A) : F_L_sharing x (nI t) w = some (cnt (fun u => if aEqW A t u = 0 then 0 else 1) (aN A)) := by
  obtain ⟨h1, h2⟩ := tin hA ht
  rw [e_sharing X]
  unfold qSharing
  rw [if_neg h1, h2, lq_l]
/-- which mood would do: the first of those under which all is read -/
theorem e_moodP (X : XO w x o A) (hA : WA A) {t : Nat} (ht : t < aN A) {h : Nat} (hh : h < 2) {z : Int32} (hz : zz z = nI h) (hp : ¬ pun A t h = 0) : (∃ m, m < 5 ∧ aRight A t h (aH A t h 1) (nI m) = aT A t 0 ∧ F_L_moodFor x (nI t) z w = some (nI m)) ∨ ((∀ m, m < 5 → ¬ aRight A t h (aH A t h 1) (nI m) = aT A t 0) ∧ F_L_moodFor x (nI t) z w = some (-75)) := by
  obtain ⟨h1, h2⟩ := tin hA ht
  rw [e_moodFor X _ hh hz]
  unfold qMoodFor
  rw [if_neg h1, h2, if_neg hp]
  rcases find_r (P := fun m => aRight A t h (aH A t h 1) (nI m) = aT A t 0) 5 with ⟨m, e, m1, m2, m3⟩ | ⟨e, m1⟩
  · refine Or.inl ⟨m, m1, m2, ?_⟩
    rw [e]
    rfl
  · refine Or.inr ⟨m1, ?_⟩
    rw [e]
    rfl
theorem e_would0 (X : XO w x o A) (hA : WA A) {t : Nat} (ht : t < aN A) {h : Nat} (hh : h < 2) {z : Int32} (hz : zz z = nI h) (hp : ¬ pun A t h = 0) : F_L_would x (nI t) z 0 w = some (aRight A t h (aH A t h 1) (aH A t h 0)) := by
  obtain ⟨h1, h2⟩ := tin hA ht
  obtain ⟨-, -, -, -, -, -, hH, -⟩ := hA.n.2.2 t ht
  obtain ⟨-, ⟨g, g1, g2⟩, -⟩ := hH h hh
  rw [e_would X _ hh hz]
  unfold qWould
  rw [if_neg h1, h2, if_neg (show ¬ inn 0 0 9 = 0 by decide +kernel), if_neg hp, lq_l, g2, show nI g + 0 = nI g from nI_add g 0, if_pos (show nI g ≤ (9 : Int32) from nI_le (b := 9) (by omega) (by decide))]
theorem e_a0 (X : XO w x o A) : F_L_account x 0 w = some (A 0) := by
  rw [e_account X]
  unfold qAccount
  rw [if_pos rfl, lq_l]
theorem e_a1 (X : XO w x o A) : F_L_account x 1 w = some (A 10) := by
  rw [e_account X]
  unfold qAccount
  rw [if_neg (show ¬ (1 : Int32) = 0 by decide), if_pos rfl, lq_l]
theorem e_a2 (X : XO w x o A) : F_L_account x 2 w = some (A 1) := by
  rw [e_account X]
  unfold qAccount
  rw [if_neg (show ¬ (2 : Int32) = 0 by decide), if_neg (show ¬ (2 : Int32) = 1 by decide), if_pos rfl, lq_l]
theorem e_a3 (X : XO w x o A) : F_L_account x 3 w = some (aOpen A) := by
  rw [e_account X]
  unfold qAccount
  rw [if_neg (show ¬ (3 : Int32) = 0 by decide), if_neg (show ¬ (3 : Int32) = 1 by decide), if_neg (show ¬ (3 : Int32) = 2 by decide), if_pos rfl, lq_l]
theorem e_a4 (X : XO w x o A) : F_L_account x 4 w = some (aTorn A) := by
  rw [e_account X]
  unfold qAccount
  rw [if_neg (show ¬ (4 : Int32) = 0 by decide), if_neg (show ¬ (4 : Int32) = 1 by decide), if_neg (show ¬ (4 : Int32) = 2 by decide), if_neg (show ¬ (4 : Int32) = 3 by decide), if_pos rfl, lq_l]
theorem e_a5 (X : XO w x o A) : F_L_account x 5 w = some (aLost A) := by
  rw [e_account X]
  unfold qAccount
  rw [if_neg (show ¬ (5 : Int32) = 0 by decide), if_neg (show ¬ (5 : Int32) = 1 by decide), if_neg (show ¬ (5 : Int32) = 2 by decide), if_neg (show ¬ (5 : Int32) = 3 by decide), if_neg (show ¬ (5 : Int32) = 4 by decide), if_pos rfl, lq_l]
theorem e_a6 (X : XO w x o A) : F_L_account x 6 w = some (aPunched A) := by
  rw [e_account X]
  unfold qAccount
  rw [if_neg (show ¬ (6 : Int32) = 0 by decide), if_neg (show ¬ (6 : Int32) = 1 by decide), if_neg (show ¬ (6 : Int32) = 2 by decide), if_neg (show ¬ (6 : Int32) = 3 by decide), if_neg (show ¬ (6 : Int32) = 4 by decide), if_neg (show ¬ (6 : Int32) = 5 by decide), if_pos rfl, lq_l]
theorem e_a7 (X : XO w x o A) : F_L_account x 7 w = some (aAllLeft A) := by
  rw [e_account X]
  unfold qAccount
  rw [if_neg (show ¬ (7 : Int32) = 0 by decide), if_neg (show ¬ (7 : Int32) = 1 by decide), if_neg (show ¬ (7 : Int32) = 2 by decide), if_neg (show ¬ (7 : Int32) = 3 by decide), if_neg (show ¬ (7 : Int32) = 4 by decide), if_neg (show ¬ (7 : Int32) = 5 by decide), if_neg (show ¬ (7 : Int32) = 6 by decide), if_pos rfl, lq_l]
theorem e_a8 (X : XO w x o A) : F_L_account x 8 w = some (A 2) := by
  rw [e_account X]
  unfold qAccount
  rw [if_neg (show ¬ (8 : Int32) = 0 by decide), if_neg (show ¬ (8 : Int32) = 1 by decide), if_neg (show ¬ (8 : Int32) = 2 by decide), if_neg (show ¬ (8 : Int32) = 3 by decide), if_neg (show ¬ (8 : Int32) = 4 by decide), if_neg (show ¬ (8 : Int32) = 5 by decide), if_neg (show ¬ (8 : Int32) = 6 by decide), if_neg (show ¬ (8 : Int32) = 7 by decide), if_pos rfl, lq_l]
theorem e_a9 (X : XO w x o A) : F_L_account x 9 w = some (A 3) := by
  rw [e_account X]
  unfold qAccount
  rw [if_neg (show ¬ (9 : Int32) = 0 by decide), if_neg (show ¬ (9 : Int32) = 1 by decide), if_neg (show ¬ (9 : Int32) = 2 by decide), if_neg (show ¬ (9 : Int32) = 3 by decide), if_neg (show ¬ (9 : Int32) = 4 by decide), if_neg (show ¬ (9 : Int32) = 5 by decide), if_neg (show ¬ (9 : Int32) = 6 by decide), if_neg (show ¬ (9 : Int32) = 7 by decide), if_neg (show ¬ (9 : Int32) = 8 by decide), if_pos rfl, lq_l]
theorem e_a10 (X : XO w x o A) : F_L_account x 10 w = some (A 4) := by
  rw [e_account X]
  unfold qAccount
  rw [if_neg (show ¬ (10 : Int32) = 0 by decide), if_neg (show ¬ (10 : Int32) = 1 by decide), if_neg (show ¬ (10 : Int32) = 2 by decide), if_neg (show ¬ (10 : Int32) = 3 by decide), if_neg (show ¬ (10 : Int32) = 4 by decide), if_neg (show ¬ (10 : Int32) = 5 by decide), if_neg (show ¬ (10 : Int32) = 6 by decide), if_neg (show ¬ (10 : Int32) = 7 by decide), if_neg (show ¬ (10 : Int32) = 8 by decide), if_neg (show ¬ (10 : Int32) = 9 by decide), if_pos rfl, lq_l]
theorem e_a11 (X : XO w x o A) : F_L_account x 11 w = some (A 5) := by
  rw [e_account X]
  unfold qAccount
  rw [if_neg (show ¬ (11 : Int32) = 0 by decide), if_neg (show ¬ (11 : Int32) = 1 by decide), if_neg (show ¬ (11 : Int32) = 2 by decide), if_neg (show ¬ (11 : Int32) = 3 by decide), if_neg (show ¬ (11 : Int32) = 4 by decide), if_neg (show ¬ (11 : Int32) = 5 by decide), if_neg (show ¬ (11 : Int32) = 6 by decide), if_neg (show ¬ (11 : Int32) = 7 by decide), if_neg (show ¬ (11 : Int32) = 8 by decide), if_neg (show ¬ (11 : Int32) = 9 by decide), if_neg (show ¬ (11 : Int32) = 10 by decide), if_pos rfl, lq_l]
theorem e_a12 (X : XO w x o A) : F_L_account x 12 w = some (gI w 408 x 0) := by
  rw [e_account X]
  unfold qAccount
  rw [if_neg (show ¬ (12 : Int32) = 0 by decide), if_neg (show ¬ (12 : Int32) = 1 by decide), if_neg (show ¬ (12 : Int32) = 2 by decide), if_neg (show ¬ (12 : Int32) = 3 by decide), if_neg (show ¬ (12 : Int32) = 4 by decide), if_neg (show ¬ (12 : Int32) = 5 by decide), if_neg (show ¬ (12 : Int32) = 6 by decide), if_neg (show ¬ (12 : Int32) = 7 by decide), if_neg (show ¬ (12 : Int32) = 8 by decide), if_neg (show ¬ (12 : Int32) = 9 by decide), if_neg (show ¬ (12 : Int32) = 10 by decide), if_neg (show ¬ (12 : Int32) = 11 by decide), if_pos rfl, lq_l]
theorem e_a13 (X : XO w x o A) : F_L_account x 13 w = some (gI w 405 x 0) := by
  rw [e_account X]
  unfold qAccount
  rw [if_neg (show ¬ (13 : Int32) = 0 by decide), if_neg (show ¬ (13 : Int32) = 1 by decide), if_neg (show ¬ (13 : Int32) = 2 by decide), if_neg (show ¬ (13 : Int32) = 3 by decide), if_neg (show ¬ (13 : Int32) = 4 by decide), if_neg (show ¬ (13 : Int32) = 5 by decide), if_neg (show ¬ (13 : Int32) = 6 by decide), if_neg (show ¬ (13 : Int32) = 7 by decide), if_neg (show ¬ (13 : Int32) = 8 by decide), if_neg (show ¬ (13 : Int32) = 9 by decide), if_neg (show ¬ (13 : Int32) = 10 by decide), if_neg (show ¬ (13 : Int32) = 11 by decide), if_neg (show ¬ (13 : Int32) = 12 by decide), if_pos rfl, lq_l]
end LQ
