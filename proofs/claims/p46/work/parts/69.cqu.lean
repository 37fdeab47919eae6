/-! The class: the calls that change nothing -/
def XO (w : FW) (x o : Nat) (A : Nat → Int32) : Prop := w.1 x = 5 ∧ gR w 400 x 0 = o ∧ KO w o A
section CQU
variable {w : FW} {x o : Nat} {A : Nat → Int32}
theorem c_exist (X : XO w x o A) {t : Nat} (ht : t < aN A) : F_X4_existing x (nI t) w = some (.inl (gR w 604 (o + 1) t)) := by
  obtain ⟨x1, x2, K⟩ := X
  obtain ⟨k1, k2, l1, k3, l2, k4, l3, r1, r2, r3, r4⟩ := K.s
  obtain ⟨n1, h8⟩ := K.n
  unfold F_X4_existing
  rw [fg_t x1, x2, fg_t k1, c_hasTicket K, K.2.2.n.1, inn_t (by omega) ht, Option.bind_some, if_neg (show ¬ (1 : Int32) = 0 by decide), r1, fg_t k2, fg_t (by rw [l1]; exact nI_in (by omega) (by omega)), nI_clamp (by omega)]
theorem c_existN (X : XO w x o A) {a : Int32} (ha : inn a 0 (nI (aN A) - 1) = 0) : F_X4_existing x a w = some (.inr 2) := by
  obtain ⟨x1, x2, K⟩ := X
  unfold F_X4_existing
  rw [fg_t x1, x2, fg_t K.1.1, c_hasTicket K, K.2.2.n.1, ha, Option.bind_some, if_pos rfl]
theorem c_phalf {τ t h : Nat} (T : TK w τ A t) (hh : h < 2) {z : Int32} (hz : zz z = nI h) : F_X4_punchedHalf τ z w = some (if pun A t h = 0 then .inr 5 else .inl (τ + 3 + h)) := by
  unfold F_X4_punchedHalf
  rw [fg_t T.1.1, c_half T hh hz, Option.bind_some, fg_t (T.h hh).1, (T.h hh).2.1.1, ite_some]
theorem inl_fse {α β γ : Type} (a : α) (f : α → γ) (g : β → γ) : fse (.inl a : α ⊕ β) f g = f a := rfl
theorem inr_fse {α β γ : Type} (b : β) (f : α → γ) (g : β → γ) : fse (.inr b : α ⊕ β) f g = g b := rfl
theorem cq_ticketOf (X : XO w x o A) (a b : Int32) : F_X4_ticketOf x a b w = some (qTicketOf a b A) := by
  have K := X.2.2
  have hn := K.2.2.n.1
  have h8 := K.n.2
  unfold F_X4_ticketOf qTicketOf
  rw [fg_t X.1, hn]
  rcases tick_cases a h8 with ⟨t, ht, rfl, hi⟩ | hi
  · rw [c_exist X ht, Option.bind_some, inl_fse, hi, if_neg (show ¬ (1 : Int32) = 0 by decide), nI_clamp (by omega)]
    have T := K.T ht
    obtain ⟨q1, q2, q3, q4⟩ := T.w
    have hl := T.2.2.len
    by_cases b0 : b = 0
    · rw [if_pos b0, if_pos b0, fg_t q1, q3, fg_t q2, q4, hl.1]
    rw [if_neg b0, if_neg b0]
    by_cases b1 : b = 1
    · rw [if_pos b1, if_pos b1, fg_t q1, q3, fg_t q2, c_vowelCount T.1.2.2.2.2.2.2 T.2.1.1 hl.2, Option.bind_some]
      rfl
    rw [if_neg b1, if_neg b1]
    by_cases b2 : b = 2
    · rw [if_pos b2, if_pos b2, fg_t q1, T.2.1.2.1]
    rw [if_neg b2, if_neg b2]
    by_cases b3 : b = 3
    · rw [if_pos b3, if_pos b3, fg_t q1, T.2.1.2.2.1]
    rw [if_neg b3, if_neg b3]
    by_cases b4 : b = 4
    · rw [if_pos b4, if_pos b4, fg_t q1, T.2.1.2.2.2.1]
    rw [if_neg b4, if_neg b4]
    by_cases b5 : b = 5
    · rw [if_pos b5, if_pos b5, fg_t q1, T.2.1.2.2.2.2.1]
      rcases T.2.2.2.2.2.2.1 with z | z <;> rw [z] <;> rfl
    rw [if_neg b5, if_neg b5]
    by_cases b6 : b = 6
    · rw [if_pos b6, if_pos b6, fg_t q1, T.2.1.2.2.2.2.2.1]
    rw [if_neg b6, if_neg b6]
  · rw [c_existN X hi, Option.bind_some, inr_fse, hi, if_pos rfl]
theorem cq_wordAt (X : XO w x o A) (a p : Int32) : F_X4_wordAt x a p w = some (qWordAt a p A) := by
  have K := X.2.2
  have hn := K.2.2.n.1
  have h8 := K.n.2
  unfold F_X4_wordAt qWordAt
  rw [fg_t X.1, hn]
  rcases tick_cases a h8 with ⟨t, ht, rfl, hi⟩ | hi
  · rw [c_exist X ht, Option.bind_some, inl_fse, hi, if_neg (show ¬ (1 : Int32) = 0 by decide), nI_clamp (by omega)]
    have T := K.T ht
    obtain ⟨q1, q2, q3, q4⟩ := T.w
    have hl := T.2.2.len
    rw [fg_t q1, q3, fg_t q2, c_hasPlace T.1.2.2.2.2.2.2 T.2.1.1 hl.2, Option.bind_some, hl.1]
    rcases tick_cases p (n := aLen A t) (by omega) with ⟨k, hk, rfl, hk1⟩ | hk1
    · rw [hk1, if_neg (show ¬ (1 : Int32) = 0 by decide), if_neg (show ¬ (1 : Int32) = 0 by decide), c_letterAt T.1.2.2.2.2.2.2 T.2.1.1 hl.2 hk, Option.bind_some, fg_t (isLet_fch (T.2.2.l hk)), nI_clamp (by omega)]
    · rw [hk1, if_pos rfl, if_pos rfl]
  · rw [c_existN X hi, Option.bind_some, inr_fse, hi, if_pos rfl]
theorem cq_halfOf (X : XO w x o A) (a : Int32) {h : Nat} (hh : h < 2) {z : Int32} (hz : zz z = nI h) (b : Int32) : F_X4_halfOf x a z b w = some (qHalfOf a h b A) := by
  have K := X.2.2
  have hn := K.2.2.n.1
  have h8 := K.n.2
  unfold F_X4_halfOf qHalfOf
  rw [fg_t X.1, hn]
  rcases tick_cases a h8 with ⟨t, ht, rfl, hi⟩ | hi
  · rw [c_exist X ht, Option.bind_some, inl_fse, hi, if_neg (show ¬ (1 : Int32) = 0 by decide), nI_clamp (by omega)]
    have T := K.T ht
    obtain ⟨q1, q2, q3, q4⟩ := T.w
    have hl := T.2.2.len
    have H := T.h hh
    have hW := T.2.2.2.2.2.2.2.2.1 h hh
    rw [fg_t q1, c_half T hh hz, Option.bind_some]
    by_cases b0 : b = 0
    · rw [if_pos b0, if_pos b0, fg_t H.1, H.2.1.1]
      rcases pun_01 A t h with z | z <;> rw [z] <;> rfl
    rw [if_neg b0, if_neg b0]
    by_cases b1 : b = 1
    · rw [if_pos b1, if_pos b1, fg_t H.1, H.2.1.2.1]
    rw [if_neg b1, if_neg b1]
    by_cases b2 : b = 2
    · rw [if_pos b2, if_pos b2, fg_t H.1, H.2.1.2.2.1]
    rw [if_neg b2, if_neg b2]
    by_cases b3 : b = 3
    · rw [if_pos b3, if_pos b3, fg_t H.1, q3, c_holesOf H, Option.bind_some]
    rw [if_neg b3, if_neg b3]
    by_cases b4 : b = 4
    · rw [if_pos b4, if_pos b4, fg_t H.1, q3, H.2.1.2.2.1, c_holesLeft H, Option.bind_some]
    rw [if_neg b4, if_neg b4]
    by_cases b5 : b = 5
    · rw [if_pos b5, if_pos b5, fg_t H.1, H.2.1.2.2.2.1]
      rcases hW.2.2.1 with z | z <;> rw [z] <;> rfl
    rw [if_neg b5, if_neg b5]
    by_cases b6 : b = 6
    · rw [if_pos b6, if_pos b6, fg_t H.1, H.2.1.2.2.2.2]
      rcases hW.2.2.2 with z | z <;> rw [z] <;> rfl
    rw [if_neg b6, if_neg b6]
    by_cases b7 : b = 7
    · rw [if_pos b7, if_pos b7, fg_t H.1, H.2.1.1]
      by_cases hp : pun A t h = 0
      · rw [if_pos hp, if_pos hp]
      · rw [if_neg hp, if_neg hp, q3, H.2.1.2.1, H.2.1.2.2.1, c_rightLetters H (T.2.2.g hh) (T.2.2.m hh), Option.bind_some]
    rw [if_neg b7, if_neg b7]
  · rw [c_existN X hi, Option.bind_some, inr_fse, hi, if_pos rfl]
theorem cq_readAt (X : XO w x o A) (a : Int32) {h : Nat} (hh : h < 2) {z : Int32} (hz : zz z = nI h) (p : Int32) : F_X4_readAt x a z p w = some (qReadAt a h p A) := by
  have K := X.2.2
  have hn := K.2.2.n.1
  have h8 := K.n.2
  unfold F_X4_readAt qReadAt
  rw [fg_t X.1, hn]
  rcases tick_cases a h8 with ⟨t, ht, rfl, hi⟩ | hi
  · rw [c_exist X ht, Option.bind_some, inl_fse, hi, if_neg (show ¬ (1 : Int32) = 0 by decide), nI_clamp (by omega)]
    have T := K.T ht
    obtain ⟨q1, q2, q3, q4⟩ := T.w
    have hl := T.2.2.len
    have H := T.h hh
    rw [c_phalf T hh hz, Option.bind_some]
    by_cases hp : pun A t h = 0
    · rw [if_pos hp, inr_fse, if_pos hp]
    rw [if_neg hp, inl_fse, if_neg hp]
    rw [fg_t q1, q3, fg_t q2, c_hasPlace T.1.2.2.2.2.2.2 T.2.1.1 hl.2, Option.bind_some, hl.1]
    rcases tick_cases p (n := aLen A t) (by omega) with ⟨k, hk, rfl, hk1⟩ | hk1
    · rw [hk1, if_neg (show ¬ (1 : Int32) = 0 by decide), if_neg (show ¬ (1 : Int32) = 0 by decide), c_letterAt T.1.2.2.2.2.2.2 T.2.1.1 hl.2 hk, Option.bind_some, fg_t H.1, c_seen H hk, Option.bind_some, nI_clamp (by omega)]
      exact fg_t (read_fch _ _ (T.2.2.l hk))
    · rw [hk1, if_pos rfl, if_pos rfl]
  · rw [c_existN X hi, Option.bind_some, inr_fse, hi, if_pos rfl]
theorem cq_doAgree (X : XO w x o A) (a b : Int32) : F_X4_doAgree x a b w = some (qDoAgree a A) := by
  have K := X.2.2
  have hn := K.2.2.n.1
  have h8 := K.n.2
  unfold F_X4_doAgree qDoAgree
  rw [fg_t X.1, hn]
  rcases tick_cases a h8 with ⟨t, ht, rfl, hi⟩ | hi
  · rw [c_exist X ht, Option.bind_some, inl_fse, hi, if_neg (show ¬ (1 : Int32) = 0 by decide), nI_clamp (by omega)]
    have T := K.T ht
    obtain ⟨q1, q2, q3, q4⟩ := T.w
    have hl := T.2.2.len
    rw [fg_t q1, fg_t q1, c_sameByReading T, c_sameByHoles T, Option.bind_some, fg_t (agree_01 A t)]
    exact ite_self _
  · rw [c_existN X hi, Option.bind_some, inr_fse, hi, if_pos rfl]
theorem cq_moodFor (X : XO w x o A) (a : Int32) {h : Nat} (hh : h < 2) {z : Int32} (hz : zz z = nI h) : F_X4_moodFor x a z w = some (qMoodFor a h A) := by
  have K := X.2.2
  have hn := K.2.2.n.1
  have h8 := K.n.2
  unfold F_X4_moodFor qMoodFor
  rw [fg_t X.1, hn]
  rcases tick_cases a h8 with ⟨t, ht, rfl, hi⟩ | hi
  · rw [c_exist X ht, Option.bind_some, inl_fse, hi, if_neg (show ¬ (1 : Int32) = 0 by decide), nI_clamp (by omega)]
    have T := K.T ht
    obtain ⟨q1, q2, q3, q4⟩ := T.w
    have hl := T.2.2.len
    have H := T.h hh
    rw [c_phalf T hh hz, Option.bind_some]
    by_cases hp : pun A t h = 0
    · rw [if_pos hp, inr_fse, if_pos hp]
    rw [if_neg hp, inl_fse, if_neg hp]
    refine fLoop_findb (fun k => nI k) 5 (fun m => aRight A t h (aH A t h 1) (nI m) = aT A t 0) (r := .inl ()) (q := fun k => .inr (.inl (nI k))) rfl (fun k hk hz9 => ?_) (fun k hk hz9 => ?_) ?_ ?_
    · have c1 : ¬ (5 : Int32) ≤ nI k := nI_ge (b := 5) hk (by decide)
      rw [if_neg c1, fg_t q1, fg_t H.1, q3, H.2.1.2.2.1, c_rightLetters H (T.2.2.g hh) (Or.inr ⟨k, hk, rfl⟩), Option.bind_some, fg_t q2, q4, ← hl.1, if_neg hz9, nI_1]
    · have c1 : ¬ (5 : Int32) ≤ nI k := nI_ge (b := 5) hk (by decide)
      rw [if_neg c1, fg_t q1, fg_t H.1, q3, H.2.1.2.2.1, c_rightLetters H (T.2.2.g hh) (Or.inr ⟨k, hk, rfl⟩), Option.bind_some, fg_t q2, q4, ← hl.1, if_pos hz9]
    · have c1 : (5 : Int32) ≤ nI 5 := by decide
      rw [if_pos c1]
    · cases (List.range 5).find? (fun m => decide (aRight A t h (aH A t h 1) (nI m) = aT A t 0)) <;> rfl
  · rw [c_existN X hi, Option.bind_some, inr_fse, hi, if_pos rfl]
theorem wet_sum {A : Nat → Int32} {t h : Nat} {b : Int32} (hg : gOK (aH A t h 1)) (hb : ¬ inn b 0 9 = 0) : gOK (if aH A t h 1 + b ≤ 9 then aH A t h 1 + b else 9) ∧ (if aH A t h 1 + b < 9 then aH A t h 1 + b else 9) = (if aH A t h 1 + b ≤ 9 then aH A t h 1 + b else 9) := by
  obtain ⟨j, hj, e⟩ := hg
  obtain ⟨k, -, hk, rfl⟩ := inn_1 (a := 0) (b := 9) (by omega) (by omega) hb
  rw [e, nI_add]
  have e9 : (9 : Int32) = nI 9 := rfl
  rw [e9]
  simp only [nI_leI (show j + k < 2 ^ 31 by omega) (show 9 < 2 ^ 31 by omega), nI_ltI (show j + k < 2 ^ 31 by omega) (show 9 < 2 ^ 31 by omega)]
  by_cases c : j + k < 9
  · rw [if_pos (by omega), if_pos c]
    exact ⟨⟨j + k, by omega, rfl⟩, rfl⟩
  · rw [if_neg c]
    by_cases c2 : j + k ≤ 9
    · have : j + k = 9 := by omega
      rw [if_pos c2, this]
      exact ⟨⟨9, by omega, rfl⟩, rfl⟩
    · rw [if_neg c2]
      exact ⟨⟨9, by omega, rfl⟩, rfl⟩
theorem inn_09 (b : Int32) : (if b < 0 then (0 : Int32) else if b ≤ 9 then 1 else 0) = inn b 0 9 := by
  unfold inn
  by_cases h : b < 0
  · rw [if_pos h, if_pos h]
  · rw [if_neg h, if_neg h]
    by_cases h2 : b ≤ 9
    · rw [if_pos h2, if_neg (fun z => nle9 z h2)]
    · rw [if_neg h2, if_pos ?_]
      rw [Int32.le_iff_toInt_le] at h2
      rw [Int32.lt_iff_toInt_lt]
      omega
theorem cq_would (X : XO w x o A) (a : Int32) {h : Nat} (hh : h < 2) {z : Int32} (hz : zz z = nI h) (b : Int32) : F_X4_would x a z b w = some (qWould a h b A) := by
  have K := X.2.2
  have hn := K.2.2.n.1
  have h8 := K.n.2
  unfold F_X4_would qWould
  rw [fg_t X.1, hn]
  rcases tick_cases a h8 with ⟨t, ht, rfl, hi⟩ | hi
  · rw [c_exist X ht, Option.bind_some, inl_fse, hi, if_neg (show ¬ (1 : Int32) = 0 by decide), nI_clamp (by omega)]
    have T := K.T ht
    obtain ⟨q1, q2, q3, q4⟩ := T.w
    have hl := T.2.2.len
    have H := T.h hh
    have e9 := inn_09 b
    by_cases hb : inn b 0 9 = 0
    · rw [if_pos hb]
      by_cases c1 : b < 0
      · rw [if_pos c1]
      · rw [if_neg c1] at e9 ⊢
        by_cases c2 : b ≤ 9
        · rw [if_pos c2, hb] at e9
          exact absurd e9 (by decide)
        · rw [if_neg c2]
    rw [if_neg hb]
    have c1 : ¬ b < 0 := fun z => by
      rw [if_pos z] at e9
      exact hb e9.symm
    rw [if_neg c1] at e9 ⊢
    have c2 : b ≤ 9 := by
      by_cases z : b ≤ 9
      · exact z
      · rw [if_neg z] at e9
        exact absurd e9.symm hb
    rw [if_pos c2]
    have H := T.h hh
    rw [c_phalf T hh hz, Option.bind_some]
    by_cases hp : pun A t h = 0
    · rw [if_pos hp, inr_fse, if_pos hp]
    rw [if_neg hp, inl_fse, if_neg hp]
    obtain ⟨g1, g2⟩ := wet_sum (T.2.2.g hh) hb
    rw [fg_t q1, fg_t H.1, c_wetterBy H.1 H.2.1, Option.bind_some, g2, q3, H.2.1.2.1, c_rightLetters H g1 (T.2.2.m hh), Option.bind_some]
  · rw [c_existN X hi, Option.bind_some, inr_fse, hi, if_pos rfl]
theorem un_all {A : Nat → Int32} {t h u : Nat} : ∀ n, n ≤ 6 → cnt (aUn1 A t h u) n = cnt (fun k => if aReads A t h k = aL A u k then 0 else 1) (min n (min (aLen A t) (aLen A u))) + nI (min n (max (aLen A t) (aLen A u)) - min n (min (aLen A t) (aLen A u))) := by
  intro n
  induction n with
  | zero => intro _; simp [cnt]; rfl
  | succ n ih =>
    intro hn
    rw [cnt_s, ih (by omega)]
    unfold aUn1
    by_cases c1 : n < aLen A t <;> by_cases c2 : n < aLen A u
    · rw [if_pos c1, if_pos c2, show min (n + 1) (min (aLen A t) (aLen A u)) = n + 1 by omega, show min n (min (aLen A t) (aLen A u)) = n by omega, show min (n + 1) (max (aLen A t) (aLen A u)) - (n + 1) = 0 by omega, show min n (max (aLen A t) (aLen A u)) - n = 0 by omega, cnt_s]
      show _ + (0 : Int32) + _ = _ + (0 : Int32)
      rw [Int32.add_zero, Int32.add_zero]
    · rw [if_pos c1, if_neg c2, show min (n + 1) (min (aLen A t) (aLen A u)) = min n (min (aLen A t) (aLen A u)) by omega, Int32.add_assoc, nI_1, show min (n + 1) (max (aLen A t) (aLen A u)) - min n (min (aLen A t) (aLen A u)) = min n (max (aLen A t) (aLen A u)) - min n (min (aLen A t) (aLen A u)) + 1 by omega]
    · rw [if_neg c1, if_pos c2, show min (n + 1) (min (aLen A t) (aLen A u)) = min n (min (aLen A t) (aLen A u)) by omega, Int32.add_assoc, nI_1, show min (n + 1) (max (aLen A t) (aLen A u)) - min n (min (aLen A t) (aLen A u)) = min n (max (aLen A t) (aLen A u)) - min n (min (aLen A t) (aLen A u)) + 1 by omega]
    · rw [if_neg c1, if_neg c2, Int32.add_zero, show min (n + 1) (min (aLen A t) (aLen A u)) = min n (min (aLen A t) (aLen A u)) by omega, show min (n + 1) (max (aLen A t) (aLen A u)) = min n (max (aLen A t) (aLen A u)) by omega]
theorem nI_sub {a b : Nat} (h : b ≤ a) (ha : a < 2 ^ 31) : nI a - nI b = nI (a - b) := by
  have e : nI a = nI (a - b) + nI b := by rw [nI_add]; congr 1; omega
  rw [e]
  exact Int32.add_sub_cancel _ _
theorem cnt_nat (f : Nat → Int32) (hf : ∀ k, f k = 0 ∨ f k = 1) (n : Nat) : ∃ c, c ≤ n ∧ cnt f n = nI c := by
  obtain ⟨c, h1, h2, -⟩ := cnt_le f hf n
  exact ⟨c, h1, h2⟩
theorem aUn1_01 (A : Nat → Int32) (t h u k : Nat) : aUn1 A t h u k = 0 ∨ aUn1 A t h u k = 1 := by
  unfold aUn1
  split
  · split
    · split
      · exact Or.inl rfl
      · exact Or.inr rfl
    · exact Or.inr rfl
  · split
    · exact Or.inr rfl
    · exact Or.inl rfl
theorem aUn_7 (A : Nat → Int32) (t h u : Nat) : ∃ c, c ≤ 6 ∧ aUn A t h u = nI c := cnt_nat _ (aUn1_01 A t h u) 6
theorem c_unlike {τ τ' t u h : Nat} (T : TK w τ A t) (U : TK w τ' A u) (hh : h < 2) : F_X0_unlikeLetters (τ + 3 + h) (τ + 1) (τ' + 1) w = some (aUn A t h u) := by
  have H := T.h hh
  obtain ⟨q1, q2, q3, q4⟩ := T.w
  obtain ⟨p1, p2, p3, p4⟩ := U.w
  have h6 := T.h6
  have h6' := U.h6
  have z1 := H.1
  have emin : F_J9_min_7cf53 (nI (aLen A t)) (nI (aLen A u)) w = some (nI (min (aLen A t) (aLen A u))) := by
    unfold F_J9_min_7cf53
    rw [ite_some]
    refine congrArg some ?_
    simp only [nI_ltI (show aLen A u < 2 ^ 31 by omega) (show aLen A t < 2 ^ 31 by omega)]
    by_cases c : aLen A u < aLen A t
    · rw [if_pos c]; congr 1; omega
    · rw [if_neg c]; congr 1; omega
  have emax : F_J9_max_7cf53 (nI (aLen A t)) (nI (aLen A u)) w = some (nI (max (aLen A t) (aLen A u))) := by
    unfold F_J9_max_7cf53
    rw [ite_some]
    refine congrArg some ?_
    simp only [nI_ltI (show aLen A t < 2 ^ 31 by omega) (show aLen A u < 2 ^ 31 by omega)]
    by_cases c : aLen A t < aLen A u
    · rw [if_pos c]; congr 1; omega
    · rw [if_neg c]; congr 1; omega
  unfold F_X0_unlikeLetters
  rw [fg_t q2, fg_t p2, q4, p4, emin, Option.bind_some, emax, Option.bind_some, nI_sub (by omega) (by omega)]
  refine fLoop_bind (r := aUn A t h u) (fun k => (nI (max (aLen A t) (aLen A u) - min (aLen A t) (aLen A u)) + cnt (fun k => if aReads A t h k = aL A u k then 0 else 1) k, nI k)) (min (aLen A t) (aLen A u)) ?_ (fun k hk => ?_) ?_ rfl
  · show (_, _) = (_ + (0 : Int32), _)
    rw [Int32.add_zero]
    rfl
  · have c1 : ¬ nI (min (aLen A t) (aLen A u)) ≤ nI k := nI_ge hk (by omega)
    simp (disch := first | assumption | decide | ((simp only [z1]) <;> first | assumption | decide | (with_reducible apply ix_ok rfl <;> first | assumption | omega | decide) | (with_reducible apply ix_ok2 <;> first | assumption | omega | decide) | skip) | skip) only [fg_t, Option.bind_some, z1, c_letter H (show k < aLen A t by omega), c_seen H (show k < aLen A t by omega), c_letter U.h0 (show k < aLen A u by omega), if_neg c1, nI_1, cnt_from, st_l0, st_ite]
  · have c1 : nI (min (aLen A t) (aLen A u)) ≤ nI (min (aLen A t) (aLen A u)) := nI_le (Nat.le_refl _) (by omega)
    rw [if_pos c1]
    refine congrArg some (congrArg Sum.inr ?_)
    unfold aUn
    rw [un_all 6 (by omega), show min 6 (min (aLen A t) (aLen A u)) = min (aLen A t) (aLen A u) by omega, show min 6 (max (aLen A t) (aLen A u)) = max (aLen A t) (aLen A u) by omega, Int32.add_comm]
theorem cq_likely (X : XO w x o A) (a : Int32) {h : Nat} (hh : h < 2) {z : Int32} (hz : zz z = nI h) : F_X4_likely x a z w = some (qLikely a h A) := by
  have K := X.2.2
  have hn := K.2.2.n.1
  have h8 := K.n.2
  unfold F_X4_likely qLikely
  rw [fg_t X.1, hn]
  rcases tick_cases a h8 with ⟨t, ht, rfl, hi⟩ | hi
  · rw [c_exist X ht, Option.bind_some, inl_fse, hi, if_neg (show ¬ (1 : Int32) = 0 by decide), nI_clamp (by omega)]
    have T := K.T ht
    obtain ⟨q1, q2, q3, q4⟩ := T.w
    have hl := T.2.2.len
    have H := T.h hh
    rw [c_phalf T hh hz, Option.bind_some]
    by_cases hp : pun A t h = 0
    · rw [if_pos hp, inr_fse, if_pos hp]
    rw [if_neg hp, inl_fse, if_neg hp]
    obtain ⟨k1, k2, l1, k3, l2, k4, l3, r1, r2, r3, r4⟩ := K.s
    obtain ⟨n1, -⟩ := K.n
    have x2 := X.2.1
    have z1 := H.1
    refine fLoop_bind (r := nI (aBest A t h (aN A))) (fun k => (nI (aBest A t h k), (if k = 0 then 7 else aUn A t h (aBest A t h k)), nI k)) (aN A) rfl (fun k hk => ?_) ?_ rfl
    · have c1 : ¬ nI (aN A) ≤ nI k := nI_ge hk (by omega)
      have e1 := nI_clamp (n := k) (by omega)
      have U := K.T hk
      obtain ⟨u1, u2, u3, u4⟩ := U.w
      simp (disch := first | assumption | decide | ((simp only [x2, k1, k2, l1, r1, n1, e1, u1, q1, q3, z1]) <;> first | assumption | decide | (with_reducible apply ix_ok rfl <;> first | assumption | omega | decide) | (with_reducible apply ix_ok2 <;> first | assumption | omega | decide) | skip) | skip) only [fg_t, Option.bind_some, x2, k1, k2, l1, r1, n1, e1, u1, q1, q3, z1, u3, if_neg c1, c_unlike T U hh, nI_1]
      have e2 : aBest A t h (k + 1) = if aUn A t h k < aUn A t h (aBest A t h k) then k else aBest A t h k := rfl
      rw [if_neg (show ¬ k + 1 = 0 by omega), e2]
      by_cases k0 : k = 0
      · subst k0
        have e3 : aBest A t h 0 = 0 := rfl
        obtain ⟨c, hc, e4⟩ := aUn_7 A t h 0
        rw [if_pos rfl, e3, ite_self, e4, if_neg (show ¬ (7 : Int32) ≤ nI c from nI_ge (b := 7) (by omega) (by decide))]
      · rw [if_neg k0]
        by_cases y : aUn A t h k < aUn A t h (aBest A t h k)
        · rw [if_pos y, if_neg (nle9 y)]
        · rw [if_neg y, if_pos (le9 y)]
    · have c1 : nI (aN A) ≤ nI (aN A) := nI_le (Nat.le_refl _) (by omega)
      simp (disch := first | assumption | decide | ((simp only [x2, k1, n1]) <;> first | assumption | decide | (with_reducible apply ix_ok rfl <;> first | assumption | omega | decide) | (with_reducible apply ix_ok2 <;> first | assumption | omega | decide) | skip) | skip) only [fg_t, Option.bind_some, x2, k1, n1, if_pos c1]
  · rw [c_existN X hi, Option.bind_some, inr_fse, hi, if_pos rfl]
theorem cq_hinders (X : XO w x o A) (a : Int32) {h : Nat} (hh : h < 2) {z : Int32} (hz : zz z = nI h) : F_X4_hinders x a z w = some (qHinders a h A) := by
  have K := X.2.2
  have hn := K.2.2.n.1
  have h8 := K.n.2
  unfold F_X4_hinders qHinders
  rw [fg_t X.1, hn]
  rcases tick_cases a h8 with ⟨t, ht, rfl, hi⟩ | hi
  · rw [c_exist X ht, Option.bind_some, inl_fse, hi, if_neg (show ¬ (1 : Int32) = 0 by decide), nI_clamp (by omega)]
    have T := K.T ht
    obtain ⟨q1, q2, q3, q4⟩ := T.w
    have hl := T.2.2.len
    rw [X.2.1, fg_t K.1.1, c_hindrance K ht hh hz, Option.bind_some]
  · rw [c_existN X hi, Option.bind_some, inr_fse, hi, if_pos rfl]
theorem cq_daysLeft (X : XO w x o A) (a : Int32) : F_X4_daysLeft x a w = some (qDaysLeft a A) := by
  have K := X.2.2
  have hn := K.2.2.n.1
  have h8 := K.n.2
  unfold F_X4_daysLeft qDaysLeft
  rw [fg_t X.1, hn]
  rcases tick_cases a h8 with ⟨t, ht, rfl, hi⟩ | hi
  · rw [c_exist X ht, Option.bind_some, inl_fse, hi, if_neg (show ¬ (1 : Int32) = 0 by decide), nI_clamp (by omega)]
    have T := K.T ht
    obtain ⟨q1, q2, q3, q4⟩ := T.w
    have hl := T.2.2.len
    have hiff := T.2.2.2.2.2.2.2.2.2
    rw [fg_t q1, T.1.2.2.2.2.1, fg_t T.h0.1, T.h0.2.1.2.2.2.2]
    by_cases e11 : aT A t 11 = -1
    · have b3 : aH A t 0 3 = 0 := by
        rcases (T.2.2.2.2.2.2.2.2.1 0 (by omega)).2.2.2 with z | z
        · exact z
        · exact absurd e11 (hiff.mp z)
      rw [if_pos b3, if_pos e11]
    · have b3 : ¬ aH A t 0 3 = 0 := by rw [hiff.mpr e11]; decide
      rw [if_neg b3, if_neg e11, X.2.1, fg_t K.1.1, T.2.1.2.2.2.1, T.2.1.2.2.2.2.2.1, K.2.1.2.1]
      unfold F_J9_max_7cf53
      rw [ite_some, Option.bind_some, show aT A t 9 - (A 1 - aT A t 11) = aT A t 9 - A 1 + aT A t 11 by grind]
      refine congrArg some (congrArg Sum.inl ?_)
      by_cases y : 0 ≤ aT A t 9 - A 1 + aT A t 11
      · rw [if_pos y, if_pos ?_]
        rw [Int32.le_iff_toInt_le] at y
        rw [Int32.lt_iff_toInt_lt, show (-1 : Int32).toInt = -1 from by decide]
        rw [show (0 : Int32).toInt = 0 from by decide] at y
        omega
      · rw [if_neg y, if_neg ?_]
        intro z
        apply y
        rw [Int32.lt_iff_toInt_lt, show (-1 : Int32).toInt = -1 from by decide] at z
        rw [Int32.le_iff_toInt_le, show (0 : Int32).toInt = 0 from by decide]
        omega
  · rw [c_existN X hi, Option.bind_some, inr_fse, hi, if_pos rfl]
theorem eqW_sy (A : Nat → Int32) (a b : Nat) : aEqW A a b = aEqW A b a := by
  unfold aEqW
  by_cases h : ∀ k, k < 7 → aT A a k = aT A b k
  · rw [if_pos h, if_pos (fun k hk => (h k hk).symm)]
  · rw [if_neg h, if_neg (fun z => h (fun k hk => (z k hk).symm))]
theorem cq_sharing (X : XO w x o A) (a : Int32) : F_X4_sharing x a w = some (qSharing a A) := by
  have K := X.2.2
  have hn := K.2.2.n.1
  have h8 := K.n.2
  unfold F_X4_sharing qSharing
  rw [fg_t X.1, hn]
  rcases tick_cases a h8 with ⟨t, ht, rfl, hi⟩ | hi
  · rw [c_exist X ht, Option.bind_some, inl_fse, hi, if_neg (show ¬ (1 : Int32) = 0 by decide), nI_clamp (by omega)]
    have T := K.T ht
    obtain ⟨q1, q2, q3, q4⟩ := T.w
    have hl := T.2.2.len
    obtain ⟨k1, k2, l1, k3, l2, k4, l3, r1, r2, r3, r4⟩ := K.s
    obtain ⟨n1, -⟩ := K.n
    have x2 := X.2.1
    refine fLoop_bind (r := cnt (fun u => if aEqW A t u = 0 then 0 else 1) (aN A)) (fun k => (cnt (fun u => if aEqW A t u = 0 then 0 else 1) k, nI k)) (aN A) rfl (fun k hk => ?_) ?_ rfl
    · have c1 : ¬ nI (aN A) ≤ nI k := nI_ge hk (by omega)
      have e1 := nI_clamp (n := k) (by omega)
      have U := K.T hk
      obtain ⟨u1, u2, u3, u4⟩ := U.w
      simp (disch := first | assumption | decide | ((simp only [x2, k1, k2, l1, r1, n1, e1, u1, u2, u3, q1, q3]) <;> first | assumption | decide | (with_reducible apply ix_ok rfl <;> first | assumption | omega | decide) | (with_reducible apply ix_ok2 <;> first | assumption | omega | decide) | skip) | skip) only [fg_t, Option.bind_some, x2, k1, k2, l1, r1, n1, e1, u1, u2, u3, q1, q3, if_neg c1, c_isSame U T, eqW_sy A k t, st_l0, nI_1, cnt_s]
    · have c1 : nI (aN A) ≤ nI (aN A) := nI_le (Nat.le_refl _) (by omega)
      simp (disch := first | assumption | decide | ((simp only [x2, k1, n1]) <;> first | assumption | decide | (with_reducible apply ix_ok rfl <;> first | assumption | omega | decide) | (with_reducible apply ix_ok2 <;> first | assumption | omega | decide) | skip) | skip) only [fg_t, Option.bind_some, x2, k1, n1, if_pos c1]
  · rw [c_existN X hi, Option.bind_some, inr_fse, hi, if_pos rfl]
end CQU
