/-! The class: what its offices answer -/
def KO (w : FW) (o : Nat) (A : Nat → Int32) : Prop := OS w o ∧ OR w o A ∧ WA A
theorem KO.n {w : FW} {o : Nat} {A : Nat → Int32} (K : KO w o A) : gI w 101 o 0 = nI (aN A) ∧ aN A ≤ 8 := ⟨K.2.1.1.trans K.2.2.n.1, K.2.2.n.2.1⟩
theorem KO.T {w : FW} {o t : Nat} {A : Nat → Int32} (K : KO w o A) (ht : t < aN A) : TK w (gR w 604 (o + 1) t) A t := by
  have h8 := K.n.2
  exact ⟨(K.1.tkt (t := t) (by omega)).1, K.2.1.2.2.2.2.2.2.2.2.2 t ht, K.2.2.n.2.2 t ht⟩
theorem KO.s {w : FW} {o : Nat} {A : Nat → Int32} (K : KO w o A) : w.1 o = 2 ∧ w.1 (o + 1) = 14 ∧ w.2.1 (o + 1) = 8 ∧ w.1 (o + 4) = 11 ∧ w.2.1 (o + 4) = 3 ∧ w.1 (o + 5) = 12 ∧ w.2.1 (o + 5) = 5 ∧ gR w 100 o 0 = o + 1 ∧ gR w 102 o 0 = o + 2 ∧ gR w 103 o 0 = o + 4 ∧ gR w 104 o 0 = o + 5 := by
  obtain ⟨k1, k2, l1, k3, l2, k4, l3, r1, r2, r3, r4, -⟩ := K.1
  exact ⟨k1, k2, l1, k3, l2, k4, l3, r1, r2, r3, r4⟩
section CO
variable {w : FW} {o : Nat} {A : Nat → Int32}
theorem c_hasTicket (K : KO w o A) (x : Int32) : F_X1_hasTicket o x w = some (inn x 0 (A 0 - 1)) := by
  unfold F_X1_hasTicket
  rw [K.2.2.n.1, inn_le (by have := K.n.2; omega), K.n.1, fg_t K.1.1, ite_some, ite_some]
theorem c_isPuncher (x : Int32) (w : FW) : F_X4_isPuncher x w = some (inn x 0 2) := by
  unfold F_X4_isPuncher
  rw [ite_some, ite_some, show (2 : Int32) = nI 3 - 1 from rfl, inn_le (by omega)]
  rfl
theorem c_isPier (x : Int32) (w : FW) : F_X4_isPier x w = some (inn x 0 4) := by
  unfold F_X4_isPier
  rw [ite_some, ite_some, show (4 : Int32) = nI 5 - 1 from rfl, inn_le (by omega)]
  rfl
theorem c_moodOf (K : KO w o A) (x : Int32) : F_X1_moodOf o x w = some (if inn x 0 2 = 0 then -1 else A (7 + x.toNatClampNeg)) := by
  obtain ⟨k1, k2, l1, k3, l2, k4, l3, r1, r2, r3, r4⟩ := K.s
  unfold F_X1_moodOf
  rw [c_isPuncher, Option.bind_some]
  by_cases h : inn x 0 2 = 0
  · rw [if_pos h, if_pos h]
  · obtain ⟨j, -, hj, rfl⟩ := inn_1 (a := 0) (b := 2) (by omega) (by omega) h
    rw [if_neg h, if_neg h, r3, fg_t k1, fg_t k3, fg_t (by rw [l2]; exact nI_in (by omega) (by omega)), nI_clamp (by omega)]
    exact congrArg some (K.2.1.2.2.2.2.2.2.1 j (by omega))
theorem c_open (K : KO w o A) {p : Nat} (hp : p < 5) : gI w 602 (o + 5) p = if aShut A p = 0 then 1 else 0 := K.2.1.2.2.2.2.2.2.2.1 p hp
theorem c_isClosed (K : KO w o A) {p : Nat} (hp : p < 5) : F_X1_isClosed o (nI p) w = some (aShut A p) := by
  obtain ⟨k1, k2, l1, k3, l2, k4, l3, r1, r2, r3, r4⟩ := K.s
  unfold F_X1_isClosed
  rw [c_isPier, Option.bind_some, show (4 : Int32) = nI 5 - 1 from rfl, inn_t (by omega) hp, if_11, r4, fg_t k1, fg_t k4, fg_t (by rw [l3]; exact nI_in (by omega) (by omega)), nI_clamp (by omega), c_open K hp, ite_some]
  rcases shut_01 A p with h | h <;> rw [h] <;> rfl
theorem c_openPiers (K : KO w o A) : F_X1_openPiers o w = some (aOpen A) := by
  obtain ⟨k1, k2, l1, k3, l2, k4, l3, r1, r2, r3, r4⟩ := K.s
  unfold F_X1_openPiers aOpen
  refine fLoop_bind (fun k => (cnt (fun p => if aShut A p = 0 then 1 else 0) k, nI k)) 5 rfl (fun p hk => ?_) ?_ rfl
  · have c1 : ¬ (5 : Int32) ≤ nI p := nI_ge (b := 5) hk (by decide)
    have e1 := nI_clamp (n := p) (by omega)
    have e2 : ((if aShut A p = 0 then (1 : Int32) else 0) = 0) = ¬ (aShut A p = 0) := by
      rcases shut_01 A p with h | h <;> rw [h] <;> simp
    simp (disch := first | assumption | decide | ((simp only [k1, k4, l3, r4, e1]) <;> first | assumption | decide | (with_reducible apply ix_ok rfl <;> first | assumption | omega | decide) | (with_reducible apply ix_ok2 <;> first | assumption | omega | decide) | skip) | skip) only [fg_t, Option.bind_some, k1, k4, l3, r4, e1, if_neg c1, c_open K hk, nI_1, cnt_s]
    rcases shut_01 A p with h | h <;> simp only [h, Int32.add_zero, eq_self, if_true, if_false, j10]
  · have c1 : (5 : Int32) ≤ nI 5 := by decide
    simp only [if_pos c1]
theorem c_tornC (K : KO w o A) : F_X1_tornTickets o w = some (cnt (fun t => if aT A t 10 = 0 then 0 else 1) (aN A)) := by
  obtain ⟨k1, k2, l1, k3, l2, k4, l3, r1, r2, r3, r4⟩ := K.s
  obtain ⟨n1, h8⟩ := K.n
  unfold F_X1_tornTickets
  refine fLoop_bind (fun k => (cnt (fun t => if aT A t 10 = 0 then 0 else 1) k, nI k)) (aN A) rfl (fun t hk => ?_) ?_ rfl
  · have c1 : ¬ nI (aN A) ≤ nI t := nI_ge hk (by omega)
    have e1 := nI_clamp (n := t) (by omega)
    have T := K.T hk
    have H0 := T.h0
    have H1 := T.h1
    obtain ⟨q1, q2, q3, q4⟩ := T.w
    have q5 := T.1.2.2.2.2.1
    have q6 := T.1.2.2.2.2.2.1
    have q7 := H0.1
    have q8 := H1.1
    simp (disch := first | assumption | decide | ((simp only [k1, k2, l1, r1, n1, e1, q1, q2, q3, q5, q6, q7, q8]) <;> first | assumption | decide | (with_reducible apply ix_ok rfl <;> first | assumption | omega | decide) | (with_reducible apply ix_ok2 <;> first | assumption | omega | decide) | skip) | skip) only [fg_t, Option.bind_some, k1, k2, l1, r1, n1, e1, q1, q2, q3, q5, q6, q7, q8, T.2.1.2.2.2.2.1, if_neg c1, nI_1, cnt_s, ite_some, st_ite, st_l0, st_l1, st2_ite, st2_l0, st2_l1, ite_addl, Int32.add_assoc]
  · have c1 : nI (aN A) ≤ nI (aN A) := nI_le (Nat.le_refl _) (by omega)
    simp (disch := first | assumption | decide | ((simp only [k1, k2, n1]) <;> first | assumption | decide | (with_reducible apply ix_ok rfl <;> first | assumption | omega | decide) | (with_reducible apply ix_ok2 <;> first | assumption | omega | decide) | skip) | skip) only [fg_t, Option.bind_some, k1, k2, n1, if_pos c1]
theorem c_lostC (K : KO w o A) : F_X1_lostHalves o w = some (cnt (fun t => (if aH A t 0 2 = 0 then 0 else 1) + (if aH A t 1 2 = 0 then 0 else 1)) (aN A)) := by
  obtain ⟨k1, k2, l1, k3, l2, k4, l3, r1, r2, r3, r4⟩ := K.s
  obtain ⟨n1, h8⟩ := K.n
  unfold F_X1_lostHalves
  refine fLoop_bind (fun k => (cnt (fun t => (if aH A t 0 2 = 0 then 0 else 1) + (if aH A t 1 2 = 0 then 0 else 1)) k, nI k)) (aN A) rfl (fun t hk => ?_) ?_ rfl
  · have c1 : ¬ nI (aN A) ≤ nI t := nI_ge hk (by omega)
    have e1 := nI_clamp (n := t) (by omega)
    have T := K.T hk
    have H0 := T.h0
    have H1 := T.h1
    obtain ⟨q1, q2, q3, q4⟩ := T.w
    have q5 := T.1.2.2.2.2.1
    have q6 := T.1.2.2.2.2.2.1
    have q7 := H0.1
    have q8 := H1.1
    simp (disch := first | assumption | decide | ((simp only [k1, k2, l1, r1, n1, e1, q1, q2, q3, q5, q6, q7, q8]) <;> first | assumption | decide | (with_reducible apply ix_ok rfl <;> first | assumption | omega | decide) | (with_reducible apply ix_ok2 <;> first | assumption | omega | decide) | skip) | skip) only [fg_t, Option.bind_some, k1, k2, l1, r1, n1, e1, q1, q2, q3, q5, q6, q7, q8, H0.2.1.2.2.2.1, H1.2.1.2.2.2.1, if_neg c1, nI_1, cnt_s, ite_some, st_ite, st_l0, st_l1, st2_ite, st2_l0, st2_l1, ite_addl, Int32.add_assoc]
  · have c1 : nI (aN A) ≤ nI (aN A) := nI_le (Nat.le_refl _) (by omega)
    simp (disch := first | assumption | decide | ((simp only [k1, k2, n1]) <;> first | assumption | decide | (with_reducible apply ix_ok rfl <;> first | assumption | omega | decide) | (with_reducible apply ix_ok2 <;> first | assumption | omega | decide) | skip) | skip) only [fg_t, Option.bind_some, k1, k2, n1, if_pos c1]
theorem c_punchedC (K : KO w o A) : F_X1_punchedHalves o w = some (cnt (fun t => (if pun A t 0 = 0 then 0 else 1) + (if pun A t 1 = 0 then 0 else 1)) (aN A)) := by
  obtain ⟨k1, k2, l1, k3, l2, k4, l3, r1, r2, r3, r4⟩ := K.s
  obtain ⟨n1, h8⟩ := K.n
  unfold F_X1_punchedHalves
  refine fLoop_bind (fun k => (cnt (fun t => (if pun A t 0 = 0 then 0 else 1) + (if pun A t 1 = 0 then 0 else 1)) k, nI k)) (aN A) rfl (fun t hk => ?_) ?_ rfl
  · have c1 : ¬ nI (aN A) ≤ nI t := nI_ge hk (by omega)
    have e1 := nI_clamp (n := t) (by omega)
    have T := K.T hk
    have H0 := T.h0
    have H1 := T.h1
    obtain ⟨q1, q2, q3, q4⟩ := T.w
    have q5 := T.1.2.2.2.2.1
    have q6 := T.1.2.2.2.2.2.1
    have q7 := H0.1
    have q8 := H1.1
    simp (disch := first | assumption | decide | ((simp only [k1, k2, l1, r1, n1, e1, q1, q2, q3, q5, q6, q7, q8]) <;> first | assumption | decide | (with_reducible apply ix_ok rfl <;> first | assumption | omega | decide) | (with_reducible apply ix_ok2 <;> first | assumption | omega | decide) | skip) | skip) only [fg_t, Option.bind_some, k1, k2, l1, r1, n1, e1, q1, q2, q3, q5, q6, q7, q8, H0.2.1.1, H1.2.1.1, if_neg c1, nI_1, cnt_s, ite_some, st_ite, st_l0, st_l1, st2_ite, st2_l0, st2_l1, ite_addl, Int32.add_assoc]
  · have c1 : nI (aN A) ≤ nI (aN A) := nI_le (Nat.le_refl _) (by omega)
    simp (disch := first | assumption | decide | ((simp only [k1, k2, n1]) <;> first | assumption | decide | (with_reducible apply ix_ok rfl <;> first | assumption | omega | decide) | (with_reducible apply ix_ok2 <;> first | assumption | omega | decide) | skip) | skip) only [fg_t, Option.bind_some, k1, k2, n1, if_pos c1]
theorem c_rightC (K : KO w o A) : F_X1_rightHalves o w = some (cnt (fun t => (if aIsRead A t 0 = 0 then 0 else 1) + (if aIsRead A t 1 = 0 then 0 else 1)) (aN A)) := by
  obtain ⟨k1, k2, l1, k3, l2, k4, l3, r1, r2, r3, r4⟩ := K.s
  obtain ⟨n1, h8⟩ := K.n
  unfold F_X1_rightHalves
  refine fLoop_bind (fun k => (cnt (fun t => (if aIsRead A t 0 = 0 then 0 else 1) + (if aIsRead A t 1 = 0 then 0 else 1)) k, nI k)) (aN A) rfl (fun t hk => ?_) ?_ rfl
  · have c1 : ¬ nI (aN A) ≤ nI t := nI_ge hk (by omega)
    have e1 := nI_clamp (n := t) (by omega)
    have T := K.T hk
    have H0 := T.h0
    have H1 := T.h1
    obtain ⟨q1, q2, q3, q4⟩ := T.w
    have q5 := T.1.2.2.2.2.1
    have q6 := T.1.2.2.2.2.2.1
    have q7 := H0.1
    have q8 := H1.1
    simp (disch := first | assumption | decide | ((simp only [k1, k2, l1, r1, n1, e1, q1, q2, q3, q5, q6, q7, q8]) <;> first | assumption | decide | (with_reducible apply ix_ok rfl <;> first | assumption | omega | decide) | (with_reducible apply ix_ok2 <;> first | assumption | omega | decide) | skip) | skip) only [fg_t, Option.bind_some, k1, k2, l1, r1, n1, e1, q1, q2, q3, q5, q6, q7, q8, c_isReadRightly H0, c_isReadRightly H1, if_neg c1, nI_1, cnt_s, ite_some, st_ite, st_l0, st_l1, st2_ite, st2_l0, st2_l1, ite_addl, Int32.add_assoc]
  · have c1 : nI (aN A) ≤ nI (aN A) := nI_le (Nat.le_refl _) (by omega)
    simp (disch := first | assumption | decide | ((simp only [k1, k2, n1]) <;> first | assumption | decide | (with_reducible apply ix_ok rfl <;> first | assumption | omega | decide) | (with_reducible apply ix_ok2 <;> first | assumption | omega | decide) | skip) | skip) only [fg_t, Option.bind_some, k1, k2, n1, if_pos c1]
theorem c_allLeft (K : KO w o A) : F_X1_holesLeft o w = some (cnt (fun t => aLeftOf A t 0 + aLeftOf A t 1) (aN A)) := by
  obtain ⟨k1, k2, l1, k3, l2, k4, l3, r1, r2, r3, r4⟩ := K.s
  obtain ⟨n1, h8⟩ := K.n
  unfold F_X1_holesLeft
  refine fLoop_bind (fun k => (cnt (fun t => aLeftOf A t 0 + aLeftOf A t 1) k, nI k)) (aN A) rfl (fun t hk => ?_) ?_ rfl
  · have c1 : ¬ nI (aN A) ≤ nI t := nI_ge hk (by omega)
    have e1 := nI_clamp (n := t) (by omega)
    have T := K.T hk
    have H0 := T.h0
    have H1 := T.h1
    obtain ⟨q1, q2, q3, q4⟩ := T.w
    have q5 := T.1.2.2.2.2.1
    have q6 := T.1.2.2.2.2.2.1
    have q7 := H0.1
    have q8 := H1.1
    simp (disch := first | assumption | decide | ((simp only [k1, k2, l1, r1, n1, e1, q1, q2, q3, q5, q6, q7, q8]) <;> first | assumption | decide | (with_reducible apply ix_ok rfl <;> first | assumption | omega | decide) | (with_reducible apply ix_ok2 <;> first | assumption | omega | decide) | skip) | skip) only [fg_t, Option.bind_some, k1, k2, l1, r1, n1, e1, q1, q2, q3, q5, q6, q7, q8, c_tholes T, if_neg c1, nI_1, cnt_s, ite_some, st_ite, st_l0, st_l1, st2_ite, st2_l0, st2_l1, ite_addl, Int32.add_assoc]
  · have c1 : nI (aN A) ≤ nI (aN A) := nI_le (Nat.le_refl _) (by omega)
    simp (disch := first | assumption | decide | ((simp only [k1, k2, n1]) <;> first | assumption | decide | (with_reducible apply ix_ok rfl <;> first | assumption | omega | decide) | (with_reducible apply ix_ok2 <;> first | assumption | omega | decide) | skip) | skip) only [fg_t, Option.bind_some, k1, k2, n1, if_pos c1]
theorem if_id {x : Int32} (h : x = 0 ∨ x = 1) : (if x = 0 then (0 : Int32) else 1) = x := by
  rcases h with rfl | rfl <;> rfl
theorem c_torn (K : KO w o A) : F_X1_tornTickets o w = some (aTorn A) := by
  rw [c_tornC K]
  exact congrArg some (cnt_congr (fun t ht => if_id (K.2.2.n.2.2 t ht).2.2.2.2.1))
theorem c_lost (K : KO w o A) : F_X1_lostHalves o w = some (aLost A) := by
  rw [c_lostC K]
  refine congrArg some (cnt_congr (fun t ht => ?_))
  have h := (K.2.2.n.2.2 t ht).2.2.2.2.2.2.1
  show (if aH A t 0 2 = 0 then (0 : Int32) else 1) + (if aH A t 1 2 = 0 then 0 else 1) = _
  rw [if_id (h 0 (by omega)).2.2.1, if_id (h 1 (by omega)).2.2.1]
theorem c_punched (K : KO w o A) : F_X1_punchedHalves o w = some (aPunched A) := by
  rw [c_punchedC K]
  refine congrArg some (cnt_congr (fun t ht => ?_))
  show (if pun A t 0 = 0 then (0 : Int32) else 1) + (if pun A t 1 = 0 then 0 else 1) = _
  rw [if_id (pun_01 A t 0), if_id (pun_01 A t 1)]
def aReadMany (A : Nat → Int32) : Int32 := cnt (fun t => aIsRead A t 0 + aIsRead A t 1) (aN A)
theorem c_right (K : KO w o A) : F_X1_rightHalves o w = some (aReadMany A) := by
  rw [c_rightC K]
  refine congrArg some (cnt_congr (fun t ht => ?_))
  show (if aIsRead A t 0 = 0 then (0 : Int32) else 1) + (if aIsRead A t 1 = 0 then 0 else 1) = _
  rw [if_id (read_01 A t 0), if_id (read_01 A t 1)]
noncomputable def aFirst (A : Nat → Int32) (t : Nat) : Int32 := match (List.range (aN A)).find? (fun i => decide (¬ aEqW A i t = 0)) with
  | some i => nI i
  | none => -1
theorem c_firstWith (K : KO w o A) {t' : Nat} (ht : t' < aN A) : F_X1_firstWith o (gR w 604 (o + 1) t' + 1) w = some (aFirst A t') := by
  obtain ⟨k1, k2, l1, k3, l2, k4, l3, r1, r2, r3, r4⟩ := K.s
  obtain ⟨n1, h8⟩ := K.n
  unfold F_X1_firstWith aFirst
  refine fLoop_findb (fun k => nI k) (aN A) (fun k => ¬ aEqW A k t' = 0) (r := .inl ()) (q := fun k => .inr (nI k)) rfl (fun t hk hp => ?_) (fun t hk hp => ?_) ?_ ?_
  · have c1 : ¬ nI (aN A) ≤ nI t := nI_ge hk (by omega)
    have e1 := nI_clamp (n := t) (by omega)
    have T := K.T hk
    obtain ⟨q1, q2, q3, q4⟩ := T.w
    simp (disch := first | assumption | decide | ((simp only [k1, k2, l1, r1, n1, e1, q1, q2, q3]) <;> first | assumption | decide | (with_reducible apply ix_ok rfl <;> first | assumption | omega | decide) | (with_reducible apply ix_ok2 <;> first | assumption | omega | decide) | skip) | skip) only [fg_t, Option.bind_some, k1, k2, l1, r1, n1, e1, q1, q2, q3, c_isSame T (K.T ht), if_neg c1, if_pos (Decidable.not_not.mp hp), nI_1]
  · have c1 : ¬ nI (aN A) ≤ nI t := nI_ge hk (by omega)
    have e1 := nI_clamp (n := t) (by omega)
    have T := K.T hk
    obtain ⟨q1, q2, q3, q4⟩ := T.w
    simp (disch := first | assumption | decide | ((simp only [k1, k2, l1, r1, n1, e1, q1, q2, q3]) <;> first | assumption | decide | (with_reducible apply ix_ok rfl <;> first | assumption | omega | decide) | (with_reducible apply ix_ok2 <;> first | assumption | omega | decide) | skip) | skip) only [fg_t, Option.bind_some, k1, k2, l1, r1, n1, e1, q1, q2, q3, c_isSame T (K.T ht), if_neg c1, if_neg hp]
  · have c1 : nI (aN A) ≤ nI (aN A) := nI_le (Nat.le_refl _) (by omega)
    simp (disch := first | assumption | decide | ((simp only [k1, k2, n1]) <;> first | assumption | decide | (with_reducible apply ix_ok rfl <;> first | assumption | omega | decide) | (with_reducible apply ix_ok2 <;> first | assumption | omega | decide) | skip) | skip) only [fg_t, Option.bind_some, k1, k2, n1, if_pos c1]
  · cases (List.range (aN A)).find? (fun i => decide (¬ aEqW A i t' = 0)) <;> rfl
/-- how many tickets stand ahead of ticket t -/
def aAhead (A : Nat → Int32) (m : Int32) (t : Nat) : Int32 := cnt (fun b => if aMeas A t m < aMeas A b m then 1 else if aMeas A b m = aMeas A t m then (if b < t then 1 else 0) else 0) (aN A)
theorem st_3 {ρ : Type} {c1 c2 c3 : Prop} {i1 : Decidable c1} {i2 : Decidable c2} {i3 : Decidable c3} (a b : Int32) {z : Int32} (h : z = if c1 then 1 else if c2 then (if c3 then 0 else 1) else 0) : (if c1 then some (Sum.inl (a + 1, b)) else if c2 then (if c3 then some (Sum.inl (a, b)) else some (Sum.inl (a + 1, b))) else some (Sum.inl (a, b))) = (some (Sum.inl (a + z, b)) : Option ((Int32 × Int32) ⊕ ρ)) := by
  subst h
  by_cases h1 : c1
  · rw [if_pos h1, if_pos h1]
  · rw [if_neg h1, if_neg h1]
    by_cases h2 : c2
    · rw [if_pos h2, if_pos h2]
      by_cases h3 : c3
      · rw [if_pos h3, if_pos h3, Int32.add_zero]
      · rw [if_neg h3, if_neg h3]
    · rw [if_neg h2, if_neg h2, Int32.add_zero]
theorem c_ahead (K : KO w o A) (m : Int32) {t' : Nat} (ht : t' < aN A) : F_X1_ticketsAhead o m (nI t') w = some (aAhead A m t') := by
  obtain ⟨k1, k2, l1, k3, l2, k4, l3, r1, r2, r3, r4⟩ := K.s
  obtain ⟨n1, h8⟩ := K.n
  have e0 := nI_clamp (n := t') (by omega)
  have T' := K.T ht
  have q1' := T'.1.1
  unfold F_X1_ticketsAhead aAhead
  rw [fg_t k1, r1, fg_t k2, l1, fg_t (nI_in (by omega) (by omega)), e0, fg_t q1', c_measured T', Option.bind_some]
  refine fLoop_bind (fun k => (cnt (fun b => if aMeas A t' m < aMeas A b m then 1 else if aMeas A b m = aMeas A t' m then (if b < t' then 1 else 0) else 0) k, nI k)) (aN A) rfl (fun t hk => ?_) ?_ rfl
  · have c1 : ¬ nI (aN A) ≤ nI t := nI_ge hk (by omega)
    have e1 := nI_clamp (n := t) (by omega)
    have T := K.T hk
    have q1 := T.1.1
    have e3 : (nI t' ≤ nI t) = ¬ (t < t') := by
      rw [nI_leI (by omega) (by omega)]
      exact propext (by omega)
    simp (disch := first | assumption | decide | ((simp only [k1, k2, l1, r1, n1, e1, q1]) <;> first | assumption | decide | (with_reducible apply ix_ok rfl <;> first | assumption | omega | decide) | (with_reducible apply ix_ok2 <;> first | assumption | omega | decide) | skip) | skip) only [fg_t, Option.bind_some, k1, k2, l1, r1, n1, e1, q1, c_measured T, if_neg c1, nI_1, cnt_s]
    refine st_3 _ _ ?_
    simp only [e3, ite_not]
  · have c1 : nI (aN A) ≤ nI (aN A) := nI_le (Nat.le_refl _) (by omega)
    simp (disch := first | assumption | decide | ((simp only [k1, k2, n1]) <;> first | assumption | decide | (with_reducible apply ix_ok rfl <;> first | assumption | omega | decide) | (with_reducible apply ix_ok2 <;> first | assumption | omega | decide) | skip) | skip) only [fg_t, Option.bind_some, k1, k2, n1, if_pos c1]
/-- behind the clauses of a ride: piers, then what is read -/
theorem c_tail (K : KO w o A) {t h : Nat} (ht : t < aN A) (hh : h < 2) : (F_X1_isClosed o (aT A t 7) w).bind (fun r => if r = 0 then (F_X1_isClosed o (aT A t 8) w).bind (fun r2 => if r2 = 0 then (F_X0_firstWrongPlace (gR w 604 (o + 1) t + 3 + h) (gR w 604 (o + 1) t + 1) w).bind (fun r3 => if r3 = -1 then some 0 else some 10) else some 9) else some 9) = some (if aShut A (loP A t) = 1 then (9, nI (loP A t)) else if aShut A (hiP A t) = 1 then (9, nI (hiP A t)) else if aIsRead A t h = 0 then (10, aUnlike A t h) else ((0 : Int32), (0 : Int32))).1 ∨ aH A t h 0 = -1 := by
  have T := K.T ht
  by_cases p0 : aH A t h 0 = -1
  · exact Or.inr p0
  refine Or.inl ?_
  obtain ⟨p, hp, ep⟩ := T.2.2.2.1
  obtain ⟨q, hq, eq⟩ := T.2.2.2.2.1
  have e1 : aFrom A t = p := by unfold aFrom; rw [ep]; exact nI_clamp (by omega)
  have e2 : aTo A t = q := by unfold aTo; rw [eq]; exact nI_clamp (by omega)
  rw [ep, eq, c_isClosed K hp, c_isClosed K hq, c_firstWrong (T.h hh), Option.bind_some, Option.bind_some, Option.bind_some, ite_some]
  have hr : (if aUnlike A t h = -1 then (0 : Int32) else 10) = (if aIsRead A t h = 0 then (10, aUnlike A t h) else ((0 : Int32), (0 : Int32))).1 := by
    unfold aIsRead
    simp only [if_neg p0, unlike_all T.2.2]
    by_cases z : aRight A t h (aH A t h 1) (aH A t h 0) = aT A t 0
    · simp only [if_pos z, j10, if_false]
    · simp only [if_neg z, eq_self, if_true]
  rw [hr]
  have hlo : loP A t = if q ≤ p then q else p := by unfold loP; rw [e1, e2]
  have hhi : hiP A t = if q ≤ p then p else q := by
    unfold hiP
    rw [hlo, e1, e2]
    split <;> omega
  rw [hlo, hhi]
  by_cases c : q ≤ p
  · simp only [if_pos c]
    rcases shut_01 A p with s1 | s1 <;> rcases shut_01 A q with s2 | s2 <;> simp [s1, s2]
  · simp only [if_neg c]
    rcases shut_01 A p with s1 | s1 <;> rcases shut_01 A q with s2 | s2 <;> simp [s1, s2]
theorem c_hindrance (K : KO w o A) {t h : Nat} (ht : t < aN A) (hh : h < 2) {z : Int32} (hz : zz z = nI h) : F_X1_hindrance o (gR w 604 (o + 1) t) z w = some (sHind t h A).1 := by
  have T := K.T ht
  have H := T.h hh
  have k1 := K.1.1
  have hW := T.2.2.2.2.2.2.2.2.1
  unfold F_X1_hindrance sHind
  rw [fg_t T.1.1, c_half T hh hz, Option.bind_some, fg_t H.1, H.2.1.2.2.2.1, H.2.1.1, H.2.1.2.2.2.2, T.2.1.2.1, T.2.1.2.2.1, T.2.1.2.2.2.1, T.2.1.2.2.2.2.2.1, T.1.2.2.2.2.1, T.1.2.2.2.1, T.h0.2.1.2.2.2.2, K.2.1.2.1]
  rcases (hW h hh).2.2.1 with a2 | a2
  · rw [if_pos a2, if_neg (show ¬ aH A t h 2 = 1 by rw [a2]; decide)]
    by_cases a0 : aH A t h 0 = -1
    · rw [if_pos (pun_0.mpr a0), if_pos a0]
    rw [if_neg (fun z => a0 (pun_0.mp z)), if_neg a0]
    rcases (hW h hh).2.2.2 with a3 | a3
    · rw [if_pos a3, if_neg (show ¬ aH A t h 3 = 1 by rw [a3]; decide)]
      rcases (show h = 0 ∨ h = 1 by omega) with rfl | rfl
      · have z0 : z = 0 := by
          unfold zz at hz
          by_cases c : z = 0
          · exact c
          · rw [if_neg c] at hz
            exact absurd hz (by decide)
        rw [if_pos z0, if_pos z0, fg_t k1, if_neg (show ¬ ((0 : Nat) = 1 ∧ aT A t 11 = -1) from fun y => absurd y.1 (by decide)), if_neg (show ¬ ((0 : Nat) = 1 ∧ aT A t 9 < A 1 - aT A t 11) from fun y => absurd y.1 (by decide))]
        exact (c_tail K ht hh).resolve_right a0
      · have z0 : ¬ z = 0 := by
          unfold zz at hz
          intro c
          rw [if_pos c] at hz
          exact absurd hz (by decide)
        rw [if_neg z0, if_neg z0, fg_t T.h0.1, fg_t k1]
        have hiff := T.2.2.2.2.2.2.2.2.2
        rcases (hW 0 (by omega)).2.2.2 with b3 | b3
        · have e11 : aT A t 11 = -1 := by
            by_cases c : aT A t 11 = -1
            · exact c
            · have := hiff.mpr c
              rw [b3] at this
              exact absurd this (by decide)
          rw [if_pos b3, if_pos (show (1 : Nat) = 1 ∧ aT A t 11 = -1 from ⟨rfl, e11⟩)]
        · have e11 : ¬ aT A t 11 = -1 := hiff.mp b3
          rw [if_neg (show ¬ aH A t 0 3 = 0 by rw [b3]; decide), if_neg (show ¬ ((1 : Nat) = 1 ∧ aT A t 11 = -1) from fun y => e11 y.2)]
          by_cases c8 : A 1 - aT A t 11 ≤ aT A t 9
          · rw [if_pos c8, if_neg (show ¬ ((1 : Nat) = 1 ∧ aT A t 9 < A 1 - aT A t 11) from fun y => nle9 y.2 c8)]
            exact (c_tail K ht hh).resolve_right a0
          · have c9 : aT A t 9 < A 1 - aT A t 11 := by
              rw [Int32.le_iff_toInt_le] at c8
              rw [Int32.lt_iff_toInt_lt]
              omega
            rw [if_neg c8, if_pos (show (1 : Nat) = 1 ∧ aT A t 9 < A 1 - aT A t 11 from ⟨rfl, c9⟩)]
    · rw [if_neg (by rw [a3]; decide), if_pos a3]
  · rw [if_neg (by rw [a2]; decide), if_pos a2]
theorem hind_all (t h : Nat) (A : Nat → Int32) : sHind t h A = (4, nI h) ∨ sHind t h A = (5, nI h) ∨ sHind t h A = (6, nI h) ∨ sHind t h A = (7, A 1) ∨ sHind t h A = (8, A 1 - aT A t 11) ∨ (sHind t h A = (9, nI (loP A t)) ∧ aShut A (loP A t) = 1) ∨ (sHind t h A = (9, nI (hiP A t)) ∧ aShut A (loP A t) = 0) ∨ sHind t h A = (10, aUnlike A t h) ∨ sHind t h A = (0, 0) := by
  unfold sHind
  by_cases c1 : aH A t h 2 = 1
  · exact Or.inl (if_pos c1)
  rw [if_neg c1]
  by_cases c2 : aH A t h 0 = -1
  · exact Or.inr (Or.inl (if_pos c2))
  rw [if_neg c2]
  by_cases c3 : aH A t h 3 = 1
  · exact Or.inr (Or.inr (Or.inl (if_pos c3)))
  rw [if_neg c3]
  by_cases c4 : h = 1 ∧ aT A t 11 = -1
  · exact Or.inr (Or.inr (Or.inr (Or.inl (if_pos c4))))
  rw [if_neg c4]
  by_cases c5 : h = 1 ∧ aT A t 9 < A 1 - aT A t 11
  · exact Or.inr (Or.inr (Or.inr (Or.inr (Or.inl (if_pos c5)))))
  rw [if_neg c5]
  by_cases c6 : aShut A (loP A t) = 1
  · exact Or.inr (Or.inr (Or.inr (Or.inr (Or.inr (Or.inl ⟨if_pos c6, c6⟩)))))
  rw [if_neg c6]
  by_cases c7 : aShut A (hiP A t) = 1
  · exact Or.inr (Or.inr (Or.inr (Or.inr (Or.inr (Or.inr (Or.inl ⟨if_pos c7, (shut_01 A (loP A t)).resolve_right c6⟩))))))
  rw [if_neg c7]
  by_cases c8 : aIsRead A t h = 0
  · exact Or.inr (Or.inr (Or.inr (Or.inr (Or.inr (Or.inr (Or.inr (Or.inl (if_pos c8))))))))
  · exact Or.inr (Or.inr (Or.inr (Or.inr (Or.inr (Or.inr (Or.inr (Or.inr (if_neg c8))))))))
theorem c_detail (K : KO w o A) {t h : Nat} (ht : t < aN A) (hh : h < 2) {z : Int32} (hz : zz z = nI h) (h0 : ¬ (sHind t h A).1 = 0) : F_X1_hindranceDetail o (gR w 604 (o + 1) t) z (sHind t h A).1 w = some (sHind t h A).2 := by
  have T := K.T ht
  have H := T.h hh
  have k1 := K.1.1
  obtain ⟨p, hp, ep⟩ := T.2.2.2.1
  obtain ⟨q, hq, eq⟩ := T.2.2.2.2.1
  have e1 : aFrom A t = p := by unfold aFrom; rw [ep]; exact nI_clamp (by omega)
  have e2 : aTo A t = q := by unfold aTo; rw [eq]; exact nI_clamp (by omega)
  have hlo : loP A t = if q ≤ p then q else p := by unfold loP; rw [e1, e2]
  have hhi : hiP A t = if q ≤ p then p else q := by
    unfold hiP
    rw [hlo, e1, e2]
    split <;> omega
  have hmin : F_J9_min_7cf53 (nI p) (nI q) w = some (nI (loP A t)) := by
    unfold F_J9_min_7cf53
    rw [hlo, ite_some]
    refine congrArg some ?_
    by_cases c : q ≤ p
    · rw [if_pos c]
      by_cases c2 : nI q < nI p
      · rw [if_pos c2]
      · rw [if_neg c2]
        have := (not_congr (nI_ltI (a := q) (b := p) (by omega) (by omega))).mp c2
        rw [show p = q by omega]
    · rw [if_neg c, if_neg (nI_nlt (by omega) (by omega))]
  have hmax : F_J9_max_7cf53 (nI p) (nI q) w = some (nI (hiP A t)) := by
    unfold F_J9_max_7cf53
    rw [hhi, ite_some]
    refine congrArg some ?_
    by_cases c : q ≤ p
    · rw [if_pos c, if_neg (nI_nlt (by omega) (by omega))]
    · rw [if_neg c, if_pos (nI_lt (by omega) (by omega))]
  have hlo5 : loP A t < 5 := by rw [hlo]; split <;> omega
  unfold F_X1_hindranceDetail
  rw [fg_t T.1.1, T.2.1.2.1, T.2.1.2.2.1, ep, eq, hmin, Option.bind_some, hmax, Option.bind_some, fg_t k1, fg_t k1, fg_t k1, c_isClosed K hlo5, Option.bind_some, c_half T hh hz, Option.bind_some, fg_t H.1, T.1.2.2.2.1, c_firstWrong H, Option.bind_some, K.2.1.2.1, T.2.1.2.2.2.2.2.1]
  have ez : (if z = 0 then some (0 : Int32) else some 1) = some (nI h) := by
    rw [ite_some]
    exact congrArg some hz
  rw [ez]
  rcases hind_all t h A with e | e | e | e | e | ⟨e, s1⟩ | ⟨e, s1⟩ | e | e
  · rw [e]; rfl
  · rw [e]; rfl
  · rw [e]; rfl
  · rw [e]; rfl
  · rw [e]; rfl
  · rw [e, s1]; rfl
  · rw [e, s1]; rfl
  · rw [e]; rfl
  · rw [e] at h0
    exact absurd rfl h0
end CO
