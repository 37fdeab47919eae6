/-! isWhole answers true -/
section WHO
variable {w : FW} {x n b : Nat} {A H S : Nat → Int32} {sv : Int32}
noncomputable def shW (A : Nat → Int32) (t : Nat) : Int32 := 840 / cnt (fun u => if aEqW A t u = 0 then (0 : Int32) else 1) (aN A)
/-- the sums behind k tickets -/
noncomputable def sW (A : Nat → Int32) (k : Nat) (v : FW) : Int32 × Int32 × Int32 × Int32 × Int32 × Int32 × Int32 × Int32 × Int32 × FW :=
  (cnt (fun t => aT A t 10) k, cnt (fun t => aH A t 0 2 + aH A t 1 2) k, cnt (fun t => pun A t 0 + pun A t 1) k, cnt (fun t => aLeftOf A t 0 + aLeftOf A t 1) k, cnt (fun t => aMeas A t 0) k, cnt (fun t => aIsRead A t 0 + aIsRead A t 1) k, cnt (fun t => aT A t 0) k, cnt (fun t => shW A t) k, nI k, v)
theorem tup9 {α : Type} {a b c d e f g h a' b' c' d' e' f' g' h' : Int32} {i : Int32} {v : α} (h1 : a = a') (h2 : b = b') (h3 : c = c') (h4 : d = d') (h5 : e = e') (h6 : f = f') (h7 : g = g') (h8 : h = h') : (a, b, c, d, e, f, g, h, i, v) = (a', b', c', d', e', f', g', h', i, v) := by
  subst h1 h2 h3 h4 h5 h6 h7 h8
  rfl
theorem hTL_1 {t : Nat} (h : Nat) (hT : WTk A t) : 1 ≤ hTL A t h := by
  have := (tick_word hT).2.1
  unfold hTL
  split
  · omega
  · split <;> omega
theorem lnL_7 {t : Nat} (hT : WTk A t) : ∃ L, 7 ≤ L ∧ L ≤ 17 ∧ lnL A t = L := by
  refine ⟨lnL A t, ?_, lnL_17 hT, rfl⟩
  have h0 := hTL_1 0 hT
  have h1 := hTL_1 1 hT
  unfold lnL lnP
  omega
theorem ite_2 {α : Type} {c : Prop} {i : Decidable c} (a b : α) : ∃ z, (@ite _ c i (some a) (some b)) = some z ∧ z = @ite _ c i a b := ⟨_, ite_some a b, rfl⟩
theorem l_isWhole (C : CR w x A n H sv S) (hI : IV b A) (hb : b ≤ 100000) : ∃ z, F_L_isWhole x w = some z ∧ z.1 = 1 ∧ CR z.2 x A n H sv S ∧ KL w z.2 x := by
  have X := C.X
  have hA := C.2.2.1
  obtain ⟨hn, h8, hT⟩ := hA.n
  have z0 : zz 0 = nI 0 := by decide
  have z1 : zz 1 = nI 1 := by decide
  unfold F_L_isWhole
  refine eb (e_a0 X) ?_
  refine eb' (fun r => ∃ v, r = .inl (cnt (fun t => aT A t 10) (aN A), cnt (fun t => aH A t 0 2 + aH A t 1 2) (aN A), cnt (fun t => pun A t 0 + pun A t 1) (aN A), cnt (fun t => aLeftOf A t 0 + aLeftOf A t 1) (aN A), cnt (fun t => aMeas A t 0) (aN A), cnt (fun t => aIsRead A t 0 + aIsRead A t 1) (aN A), cnt (fun t => aT A t 0) (aN A), cnt (fun t => shW A t) (aN A), v) ∧ CR v x A n H sv S ∧ KL w v x) ?_ ?_
  · refine fLoopB_inv (fun k s => ∃ v, s = sW A k v ∧ CR v x A n H sv S ∧ KL w v x) (aN A) 9 (by omega) ⟨w, rfl, C, KL.rf _ _⟩ ?_ ?_
    · rintro k s hk ⟨v, e, C0, K0⟩
      subst e
      unfold sW
      try dsimp only
      obtain ⟨i1, i2, i3, i4⟩ := hI.1 k hk
      obtain ⟨t1, t2, t3, t4, t5, t6, tH, t8⟩ := hT k hk
      rw [hn]
      refine en (nI_ge hk (by omega)) ?_
      obtain ⟨v1, f1, C1, K1⟩ := l_isHalf C0 hI hk (h := 0) (by omega) z0
      refine eb f1 ?_
      refine en (c := (1 : Int32) = 0) (by decide) ?_
      obtain ⟨v2, f2, C2, K2⟩ := l_isHalf C1 hI hk (h := 1) (by omega) z1
      refine eb f2 ?_
      refine en (c := (1 : Int32) = 0) (by decide) ?_
      try dsimp only
      have X2 := C2.X
      refine eb (e_t5 X2 hA hk) ?_
      refine eb' _ (ite_2 _ _) (fun x39 h39 => ?_)
      refine eb (e_h0 X2 hA hk (show 0 < 2 by decide) z0) ?_
      refine eb' (fun a => a = if pun A k 0 = 0 then 0 else if pun A k 1 = 0 then 0 else 1) ?_ (fun x48 h48 => ?_)
      · rcases pun_01 A k 0 with p0 | p0
        · refine en (by rw [p0]; decide) ⟨_, rfl, ?_⟩
          rw [if_pos p0]
        · refine ep p0 ?_
          refine eb (e_h0 X2 hA hk (show 1 < 2 by decide) z1) ?_
          rcases pun_01 A k 1 with p1 | p1
          · refine en (by rw [p1]; decide) ⟨_, rfl, ?_⟩
            rw [if_neg (by rw [p0]; decide), if_pos p1]
          · refine ep p1 ⟨_, rfl, ?_⟩
            rw [if_neg (by rw [p0]; decide), if_neg (by rw [p1]; decide)]
      refine eb' (fun a => a = aAgree A k) ?_ (fun x59 h59 => ?_)
      · have h6 := lets_6 hA hk
        have h2 := (tick_word (hT k hk)).2.1
        have ew := (tick_word (hT k hk)).1
        by_cases q0 : pun A k 0 = 0
        · refine ⟨_, fLoopB_for2 (fun _ => (0, 0)) 0 (by rw [h48, if_pos q0]) (by decide) (fun _ h => by omega) (r := 0) ?_, ?_⟩
          · try dsimp only
            refine ob (e_t0 X2 hA hk) ?_
            rw [ew, if_neg (nI_nle (by omega) (by omega)), if_pos rfl]
          · unfold aAgree
            rw [if_pos q0]
        by_cases q1 : pun A k 1 = 0
        · refine ⟨_, fLoopB_for2 (fun _ => (0, 0)) 0 (by rw [h48, if_neg q0, if_pos q1]) (by decide) (fun _ h => by omega) (r := 0) ?_, ?_⟩
          · try dsimp only
            refine ob (e_t0 X2 hA hk) ?_
            rw [ew, if_neg (nI_nle (by omega) (by omega)), if_pos rfl]
          · unfold aAgree
            rw [if_neg q0, if_pos q1]
        rcases first_or (fun i => aReads A k 0 i = aReads A k 1 i) (aLen A k) with ha | ⟨j, j1, j2, j3⟩
        · refine ⟨_, fLoopB_for2 (fun i => (1, nI i)) (aLen A k) (by rw [h48, if_neg q0, if_neg q1]; rfl) (by omega) (fun i hi => ?_) (r := 1) ?_, (agree_1 q0 q1 ha).symm⟩
          · try dsimp only
            refine ob (e_t0 X2 hA hk) ?_
            rw [ew, if_neg (nI_ge hi (by omega)), if_neg (show ¬ (1 : Int32) = 0 by decide)]
            refine ob (e_read X2 hA hk (show 0 < 2 by decide) z0 q0 hi) ?_
            refine ob (e_read X2 hA hk (show 1 < 2 by decide) z1 q1 hi) ?_
            rw [if_pos (ha i hi), nI_1]
          · try dsimp only
            refine ob (e_t0 X2 hA hk) ?_
            rw [ew, if_pos (nI_le (Nat.le_refl _) (by omega))]
        · refine ⟨_, fLoopB_for2 (fun i => (if i ≤ j then 1 else 0, nI i)) (j + 1) (by rw [h48, if_neg q0, if_neg q1, if_pos (Nat.zero_le _)]; rfl) (by omega) (fun i hi => ?_) (r := 0) ?_, (agree_0 j1 j2).symm⟩
          · try dsimp only
            refine ob (e_t0 X2 hA hk) ?_
            rw [ew, if_neg (nI_ge (show i < aLen A k by omega) (by omega)), if_pos (show i ≤ j by omega), if_neg (show ¬ (1 : Int32) = 0 by decide)]
            refine ob (e_read X2 hA hk (show 0 < 2 by decide) z0 q0 (by omega)) ?_
            refine ob (e_read X2 hA hk (show 1 < 2 by decide) z1 q1 (by omega)) ?_
            by_cases y : i = j
            · subst y
              rw [if_neg j2, if_neg (show ¬ i + 1 ≤ i by omega), nI_1]
            · rw [if_pos (j3 i (by omega)), if_pos (show i + 1 ≤ j by omega), nI_1]
          · try dsimp only
            refine ob (e_t0 X2 hA hk) ?_
            rw [if_neg (show ¬ j + 1 ≤ j by omega)]
            split
            · rfl
            · rfl
      subst h59
      refine eb (e_t6 X2 hA hk) ?_
      refine eb' (fun a => a = lq (qDaysLeft (nI k) A)) ?_ (fun x87 h87 => ?_)
      · obtain ⟨y1, y2⟩ := tin hA hk
        unfold qDaysLeft
        rw [if_neg y1, y2]
        rcases t6 with r | ⟨d, r1, r2⟩
        · refine en (by rw [r]; decide) ⟨_, rfl, ?_⟩
          rw [if_pos r]
          rfl
        · refine ep (by rw [r2]; exact nI_pos' (by omega)) ?_
          refine eb (e_t4 X2 hA hk) ?_
          refine eb (e_a2 X2) ?_
          unfold F_J9_max_7cf53
          refine eb (ite_some _ _) ⟨_, rfl, ?_⟩
          rw [if_neg (show ¬ aT A k 11 = -1 from fun z => nI_pos (n := d) (by omega) (by rw [← r2, z]; decide)), lq_l]
          exact days_m _
      refine eb (e_agree X2 hA hk 0) ?_
      refine eb' _ (ite_2 _ _) (fun x96 h96 => ?_)
      have hag : aAgree A k = x96 := by
        rw [h96]
        rcases agree_01 A k with y | y
        · rw [y, if_pos rfl]
        · rw [y, if_neg (by decide)]
      have hrd : (¬ aT A k 11 < 0) = (aH A k 0 3 = 1) := by
        rcases t6 with r | ⟨d, r1, r2⟩
        · refine propext ⟨fun z => absurd (by rw [r]; decide) z, fun z => absurd r (t8.mp z)⟩
        · refine propext ⟨fun z => t8.mpr (fun y => nI_pos (n := d) (by omega) (by rw [← r2, y]; decide)), fun _ => by rw [r2]; exact nI_pos (by omega)⟩
      refine eb' (fun a => a = 1) ?_ (fun x101 h101 => ?_)
      · refine ep hag ?_
        refine eb (e_agree X2 hA hk 1) ?_
        refine eb' _ (ite_2 _ _) (fun x212 h212 => ?_)
        refine ep (hag.trans (h96.trans h212.symm)) ?_
        refine eb (e_daysLeft X2 _) ?_
        refine ep h87.symm ?_
        refine eb' _ (ite_2 _ _) (fun x223 h223 => ?_)
        refine eb (e_h6 X2 hA hk (show 0 < 2 by decide) z0) ?_
        refine eb' _ (ite_2 _ _) (fun x232 h232 => ?_)
        have : x223 = x232 := by
          rw [h223, h232]
          by_cases y : aT A k 11 < 0
          · rw [if_pos y, if_neg (by rw [← hrd]; exact fun z => z y)]
          · rw [if_neg y, if_pos (by rw [← hrd]; exact y)]
        refine ep this ?_
        refine eb (e_h6 X2 hA hk (show 1 < 2 by decide) z1) ?_
        by_cases y : aH A k 1 3 = 0
        · exact ep y ⟨_, rfl, rfl⟩
        · refine en y (en ?_ ⟨_, rfl, rfl⟩)
          rw [hrd]
          exact i3 ((tH 1 (by omega)).2.2.2.resolve_left y)
      refine eb' (fun a => a = 1) ?_ (fun x106 h106 => ?_)
      · rcases t5 with y | y
        · rw [if_pos y] at h39
          obtain ⟨j1, j2, j3⟩ := i4 y
          refine en (by rw [h39]; decide) ?_
          refine eb (e_h5 X2 hA hk (show 0 < 2 by decide) z0) ?_
          refine eb (e_h5 X2 hA hk (show 1 < 2 by decide) z1) ?_
          refine ep j1 ?_
          refine eb (e_h2 X2 hA hk (show 0 < 2 by decide) z0) ?_
          refine en j2 ?_
          refine eb (e_h2 X2 hA hk (show 1 < 2 by decide) z1) ?_
          exact en j3 ⟨_, rfl, rfl⟩
        · rw [if_neg (by rw [y]; decide)] at h39
          exact ep h39 ⟨_, rfl, rfl⟩
      refine en (by rw [h101]; decide) ?_
      refine en (by rw [h106]; decide) ?_
      obtain ⟨L, L1, L2, L3⟩ := lnL_7 (hT k hk)
      have el := e_line C2 hk
      rw [L3] at el
      refine eb el ?_
      try dsimp only
      refine ep (show (7 : Int32) ≤ nI L from nI_le (a := 7) L1 (by omega)) ?_
      have C3 := C2.lnw L (lnF A k)
      have K3 := KL.ofL v2 x L (lnF A k)
      generalize cL v2 x L (lnF A k) = v3 at *
      have X3 := C3.X
      refine eb (fLoopB_for2 (fun h => (cnt (fun t => aH A t 0 2 + aH A t 1 2) k + cnt (fun h => aH A k h 2) h, cnt (fun t => pun A t 0 + pun A t 1) k + cnt (fun h => pun A k h) h, cnt (fun t => aLeftOf A t 0 + aLeftOf A t 1) k + cnt (fun h => aLeftOf A k h) h, cnt (fun t => aMeas A t 0) k + cnt (fun h => aH A k h 1) h, cnt (fun t => aIsRead A t 0 + aIsRead A t 1) k + cnt (fun h => aIsRead A k h) h, nI h)) 2 (by
        try dsimp only
        rw [cnt_0, cnt_0, cnt_0, cnt_0, cnt_0, Int32.add_zero, Int32.add_zero, Int32.add_zero, Int32.add_zero, Int32.add_zero]
        rfl) (by decide) (fun h hh => ?_) (r := (cnt (fun t => aH A t 0 2 + aH A t 1 2) k + cnt (fun h => aH A k h 2) 2, cnt (fun t => pun A t 0 + pun A t 1) k + cnt (fun h => pun A k h) 2, cnt (fun t => aLeftOf A t 0 + aLeftOf A t 1) k + cnt (fun h => aLeftOf A k h) 2, cnt (fun t => aMeas A t 0) k + cnt (fun h => aH A k h 1) 2, cnt (fun t => aIsRead A t 0 + aIsRead A t 1) k + cnt (fun h => aIsRead A k h) 2)) ?_) ?_
      · try dsimp only
        rw [if_neg (show ¬ (2 : Int32) ≤ nI h from nI_ge hh (by decide))]
        obtain ⟨zh, e1, e2⟩ : ∃ zh, ((if nI h = 1 then some 1 else some 0) : Option Int32) = some zh ∧ zz zh = nI h := by
          have : h = 0 ∨ h = 1 := by omega
          rcases this with y | y
          · subst y
            exact ⟨0, rfl, by decide⟩
          · subst y
            exact ⟨1, rfl, by decide⟩
        refine ob e1 ?_
        refine ob (e_h5 X3 hA hk hh e2) ?_
        refine ob (e_h0 X3 hA hk hh e2) ?_
        refine ob (e_h4 X3 hA hk hh e2) ?_
        refine ob (e_h2 X3 hA hk hh e2) ?_
        refine ob (e_h0 X3 hA hk hh e2) ?_
        rw [cnt_s, cnt_s, cnt_s, cnt_s, cnt_s, ← Int32.add_assoc, ← Int32.add_assoc, ← Int32.add_assoc, ← Int32.add_assoc, ← Int32.add_assoc, nI_1]
        rcases pun_01 A k h with p0 | p0
        · have : aIsRead A k h = 0 := by
            unfold aIsRead
            rw [if_pos (pun_0.mp p0)]
          rw [p0, if_neg (show ¬ (0 : Int32) = 1 by decide), this]
        · have hp : ¬ pun A k h = 0 := by rw [p0]; decide
          obtain ⟨h0, -⟩ := pun_1 hp
          rw [p0, if_pos rfl]
          refine ob (e_h7 X3 hA hk hh e2) ?_
          refine ob (e_t0 X3 hA hk) ?_
          rw [if_neg hp]
          unfold aIsRead
          rw [if_neg h0]
          by_cases y : aRight A k h (aH A k h 1) (aH A k h 0) = aT A k 0
          · rw [if_pos y, if_pos y]
          · rw [if_neg y, if_neg y]
      · try dsimp only
        exact if_pos (show (2 : Int32) ≤ nI 2 by decide)
      refine eb' _ (ite_2 _ _) (fun x172 h172 => ?_)
      refine eb (e_t0 X3 hA hk) ?_
      refine eb (e_share X3 hA hk) ?_
      have hs8 := share_8 (A := A) hk
      refine eg (by rw [share_n]; exact nI_ne0 (by omega) (by omega)) ?_
      refine ⟨_, rfl, _, rfl, v3, ?_, C3, ((K0.tr K1).tr K2).tr K3⟩
      try unfold sW
      have c2 : ∀ f : Nat → Int32, cnt f 2 = f 0 + f 1 := fun f => by
        rw [cnt_s, cnt_s, cnt_0, Int32.zero_add]
      rw [nI_1]
      refine tup9 ?_ ?_ ?_ ?_ ?_ ?_ ?_ ?_
      · rw [cnt_s]
        congr 1
        rw [h172, h39]
        rcases t5 with y | y
        · rw [y, if_pos rfl, if_neg (by decide)]
        · rw [y, if_neg (show ¬ (1 : Int32) = 0 by decide), if_pos rfl]
      · dsimp only
        rw [c2]
        rfl
      · dsimp only
        rw [c2]
        rfl
      · dsimp only
        rw [c2]
        rfl
      · dsimp only
        rw [c2]
        rfl
      · dsimp only
        rw [c2]
        rfl
      · rw [cnt_s]
      · rw [cnt_s]
        rfl
    · rintro s ⟨v, e, C0, K0⟩
      subst e
      unfold sW
      try dsimp only
      rw [hn]
      exact ep (nI_le (Nat.le_refl _) (by omega)) ⟨_, rfl, _, rfl, v, rfl, C0, K0⟩
  · rintro r ⟨v, e, C1, K1⟩
    subst e
    have X1 := C1.X
    show ∃ z, Option.bind _ _ = some z ∧ _
    refine eb' (fun r => r = .inl ()) ?_ (fun r hr => ?_)
    · refine fLoopB_inv (fun j s => s = nI j) 3 4 (by decide) rfl (fun j s hj hs => ?_) (fun s hs => ?_)
      · subst hs
        try dsimp only
        refine en (show ¬ (3 : Int32) ≤ nI j from nI_ge hj (by decide)) ?_
        refine eb' (fun r => r = .inl ()) ?_ (fun r hr => ?_)
        · refine fLoopB_inv (fun k s => s = nI (k + 1)) (aN A - 1) 9 (by omega) rfl (fun k s hk hs => ?_) (fun s hs => ?_)
          · subst hs
            try dsimp only
            rw [hn]
            refine en (nI_ge (show k + 1 < aN A by omega) (by omega)) ?_
            obtain ⟨p, p1, p2, p3⟩ := e_rank X1 hA hj (p := k) (by omega)
            obtain ⟨q, q1, q2, q3⟩ := e_rank X1 hA hj (p := k + 1) (by omega)
            rw [nI_pred]
            refine eb p3 ?_
            refine eb q3 ?_
            refine eb (e_measure X1 hA hj p1) ?_
            refine eb (e_measure X1 hA hj q1) ?_
            have m1 := (meas_n hA p1 hj).2
            have m2 := (meas_n hA q1 hj).2
            have hb1 := rank_next (N := aN A) (bA_01 (A := A) (nI j)) (bA_i (nI j)) (bA_t (nI j)) (bA_c (nI j)) (s := p) (t := q) q1 (by rw [p2, q2]; omega)
            rw [bA_1] at hb1
            rw [nI_sub (show meN A (nI j) q ≤ meN A (nI j) p by omega) (by omega), nI_1]
            refine en (nI_pos (by omega)) ?_
            by_cases y : meN A (nI j) p = meN A (nI j) q
            · refine ep (by rw [y, Nat.sub_self]; rfl) ?_
              exact ep (nI_le (by omega) (by omega)) ⟨_, rfl, _, rfl, rfl⟩
            · exact en (nI_ne0 (by omega) (by omega)) ⟨_, rfl, _, rfl, rfl⟩
          · subst hs
            try dsimp only
            rw [hn]
            exact ep (nI_le (by omega) (by omega)) ⟨_, rfl, _, rfl, rfl⟩
        · subst hr
          exact ⟨_, rfl, _, rfl, nI_1 j⟩
      · subst hs
        exact ep (show (3 : Int32) ≤ nI 3 by decide) ⟨_, rfl, _, rfl, rfl⟩
    · subst hr
      show ∃ z, Option.bind _ _ = some z ∧ _
      refine eb (fLoopB_for2 (fun j => (nI (sm (ofN A) j), nI (97 + j))) 26 rfl (by decide) (fun j hj => ?_) (r := nI (sm (ofN A) 26)) ?_) ?_
      · try dsimp only
        rw [if_neg (show ¬ (122 : Int32) < nI (97 + j) from nI_nlt (b := 97 + j) (a := 122) (by omega) (by decide))]
        obtain ⟨r, r1, r2⟩ := e_oftenM X1 hA j
        refine ob r1 ?_
        refine ob r2 ?_
        rw [fch_a j hj, nI_add]
        rfl
      · try dsimp only
        exact if_pos (by decide)
      try dsimp only
      refine eb (e_a4 X1) ?_
      refine eb' (fun a => a = 1) ?_ (fun x350 h350 => ?_)
      · obtain ⟨-, ⟨c2, c21, c22, c23⟩, ⟨c3, c4, d1, d2, d3, d4⟩, -⟩ := id hI
        obtain ⟨l, l5, l1, l2, l3, l4⟩ := allLeft_n hA hI
        refine ep rfl ?_
        refine eb (e_a5 X1) ?_
        refine ep rfl ?_
        refine eb (e_a6 X1) ?_
        refine ep rfl ?_
        refine eb (e_a7 X1) ?_
        refine ep rfl ?_
        refine eb (e_a8 X1) ?_
        rw [hn]
        refine en (by rw [c23]; exact nI_nlt c22 (by omega)) ?_
        refine eb (e_a10 X1) ?_
        refine eb (e_a9 X1) ?_
        refine en (by rw [d2, d3]; exact nI_nlt (by omega) (by omega)) ?_
        refine eb (e_a11 X1) ?_
        refine en (show ¬ A 5 < aAllLeft A by rw [l3, l4]; exact nI_nlt l1 (by omega)) ?_
        refine ep ?_ ?_
        · rw [often_all hA]
          exact (cnt_sm _ (fun t ht => (tick_word (hT t ht)).1)).symm
        refine eg C.1.1 ?_
        refine eb (cq_words X1) ?_
        refine ep (words_840 hA) ?_
        refine eb (e_a1 X1) ?_
        obtain ⟨L, L1, L2, -⟩ := hA.2.1
        refine en (by rw [L2]; exact nI_nlt (b := L) (a := 6) L1 (by decide)) ?_
        exact en (nI_nlt (b := aN A) (a := 8) h8 (by decide)) ⟨_, rfl, rfl⟩
      refine eb' (fun a => a = (if A 0 = 0 then 13858279740860792832 else FP.ddiv (FP.i2d (aWetMany A)) (FP.i2d (2 * A 0)))) ?_ (fun x355 h355 => ?_)
      · by_cases c : A 0 = 0
        · refine ep c ⟨_, rfl, ?_⟩
          rw [if_pos c]
        · refine en c (eg (meanWet_ok hA c).1 ⟨_, rfl, ?_⟩)
          rw [if_neg c]
          rfl
      refine eb' (fun a => a = (if aPunched A = 0 then 3264479232 else FP.fdiv (FP.i2f (aReadMany A)) (FP.i2f (aPunched A)))) ?_ (fun x360 h360 => ?_)
      · by_cases c : aPunched A = 0
        · refine ep c ⟨_, rfl, ?_⟩
          rw [if_pos c]
        · refine en c (eg (readShare_ok hA c).1 ⟨_, rfl, ?_⟩)
          rw [if_neg c]
          rfl
      refine en (by rw [h350]; decide) ?_
      obtain ⟨r1, m1, m2, m3⟩ := mean_n hA X1
      obtain ⟨r2, s1, s2, s3⟩ := share_f hA X1
      refine eb m1 ?_
      refine ep (by rw [h355, ← m2]; exact m3) ?_
      refine eb s1 ?_
      refine ep (by rw [h360, ← s2]; exact s3) ?_
      refine eg C.1.1 ?_
      refine eb (cq_isRight X1) ?_
      refine en (by rw [ok_1 hA hI]; decide) ?_
      rw [hn]
      refine eb (e_rankN X1 hA) ?_
      exact ep rfl ⟨_, rfl, rfl, C1, K1⟩
end WHO
