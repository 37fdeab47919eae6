/-! isHalf answers true -/
theorem fLoopB_for {σ ρ : Type} {step : σ → Option (σ ⊕ ρ)} {r : ρ} (st : Nat → σ) (n N : Nat) (hn : n < N) (h1 : ∀ k, k < n → step (st k) = some (.inl (st (k + 1)))) (h2 : step (st n) = some (.inr r)) : fLoopB step N (st 0) = some r := by
  have key : ∀ d k, k + d = n → ∀ M, d < M → fLoopB step M (st k) = some r := by
    intro d
    induction d with
    | zero =>
      intro k hk M hM
      obtain rfl : k = n := by omega
      cases M with
      | zero => omega
      | succ M =>
        unfold fLoopB
        rw [h2]
    | succ d ih =>
      intro k hk M hM
      cases M with
      | zero => omega
      | succ M =>
        unfold fLoopB
        rw [h1 k (by omega)]
        exact ih (k + 1) (by omega) M (by omega)
  exact key n 0 (by omega) N hn
section LIKE
variable {A : Nat → Int32} {t h : Nat}
def u1N (A : Nat → Int32) (t h u k : Nat) : Nat := if k < aLen A t then (if k < aLen A u then (if aReads A t h k = aL A u k then 0 else 1) else 1) else if k < aLen A u then 1 else 0
def uN (A : Nat → Int32) (t h u : Nat) : Nat := sm (u1N A t h u) 6
theorem aUn_n (u : Nat) : aUn A t h u = nI (uN A t h u) := cnt_sm 6 (fun k _ => by
  unfold aUn1 u1N
  (repeat' split) <;> rfl)
theorem uN_6 (u : Nat) : uN A t h u ≤ 6 := by
  have := sm_le (f := u1N A t h u) (g := fun _ => 1) 6 (fun k _ => by
    unfold u1N
    (repeat' split) <;> decide)
  rw [sm_const] at this
  exact this
theorem best_s (n : Nat) : aBest A t h (n + 1) = if uN A t h n < uN A t h (aBest A t h n) then n else aBest A t h n := by
  have h1 := uN_6 (A := A) (t := t) (h := h) n
  have h2 := uN_6 (A := A) (t := t) (h := h) (aBest A t h n)
  show (if aUn A t h n < aUn A t h (aBest A t h n) then n else aBest A t h n) = _
  rw [aUn_n, aUn_n]
  by_cases c : uN A t h n < uN A t h (aBest A t h n)
  · rw [if_pos c, if_pos ((nI_ltI (by omega) (by omega)).mpr c)]
  · rw [if_neg c, if_neg (fun z => c ((nI_ltI (by omega) (by omega)).mp z))]
/-- the first of those that are least unlike -/
theorem best_min : ∀ n, aBest A t h n ≤ n ∧ (1 ≤ n → aBest A t h n < n) ∧ (∀ v, v < n → uN A t h (aBest A t h n) ≤ uN A t h v) ∧ ∀ v, v < aBest A t h n → uN A t h (aBest A t h n) < uN A t h v := by
  intro n
  induction n with
  | zero => exact ⟨Nat.le_refl _, fun z => absurd z (by decide), fun v hv => absurd hv (Nat.not_lt_zero v), fun v hv => absurd hv (Nat.not_lt_zero v)⟩
  | succ n ih =>
    obtain ⟨i1, i2, i3, i4⟩ := ih
    rw [best_s]
    by_cases c : uN A t h n < uN A t h (aBest A t h n)
    · rw [if_pos c]
      refine ⟨by omega, fun _ => by omega, fun v hv => ?_, fun v hv => ?_⟩
      · by_cases z : v = n
        · rw [z]
          exact Nat.le_refl _
        · have := i3 v (by omega)
          omega
      · have := i3 v hv
        omega
    · rw [if_neg c]
      refine ⟨by omega, fun _ => ?_, fun v hv => ?_, i4⟩
      · by_cases z : n = 0
        · subst z
          exact Nat.lt_succ_of_le i1
        · have := i2 (by omega)
          omega
      · by_cases z : v = n
        · rw [z]
          omega
        · exact i3 v (by omega)
/-- nothing unlike: the same word -/
theorem un_word (hA : WA A) {u : Nat} (ht : t < aN A) (hu : u < aN A) (hr : ∀ k, k < aLen A t → aReads A t h k = aL A t k) (h0 : uN A t h u = 0) : ∀ k, k < 7 → aT A t k = aT A u k := by
  obtain ⟨w1, w2, w3, w4, w5, -⟩ := tick_word (hA.n.2.2 t ht)
  obtain ⟨v1, v2, v3, v4, v5, -⟩ := tick_word (hA.n.2.2 u hu)
  have hz := sm_z h0
  have hk : ∀ k, k < 6 → (k < aLen A t ↔ k < aLen A u) ∧ (k < aLen A t → aL A t k = aL A u k) := fun k hk => by
    have hzk := hz k hk
    unfold u1N at hzk
    by_cases c : k < aLen A t
    · rw [if_pos c] at hzk
      by_cases d : k < aLen A u
      · rw [if_pos d] at hzk
        by_cases e : aReads A t h k = aL A u k
        · exact ⟨⟨fun _ => d, fun _ => c⟩, fun _ => (hr k c).symm.trans e⟩
        · rw [if_neg e] at hzk
          exact absurd hzk (by decide)
      · rw [if_neg d] at hzk
        exact absurd hzk (by decide)
    · rw [if_neg c] at hzk
      by_cases d : k < aLen A u
      · rw [if_pos d] at hzk
        exact absurd hzk (by decide)
      · exact ⟨⟨fun z => absurd z c, fun z => absurd z d⟩, fun z => absurd z c⟩
  have hlen : aLen A t = aLen A u := by
    by_cases c : aLen A t = aLen A u
    · exact c
    · by_cases d : aLen A t < aLen A u
      · have := (hk (aLen A t) (by omega)).1
        omega
      · have := (hk (aLen A u) (by omega)).1
        omega
  intro k hk7
  cases k with
  | zero => rw [w1, v1, hlen]
  | succ k =>
    have e1 : ∀ s : Nat, aT A s (k + 1) = aL A s k := fun s => congrArg A (by omega)
    rw [e1, e1]
    by_cases c : k < aLen A t
    · exact (hk k (by omega)).2 c
    · rw [w5 k (by omega) (by omega), v5 k (by omega) (by omega)]
theorem un_self (hr : ∀ k, k < aLen A t → aReads A t h k = aL A t k) : uN A t h t = 0 := by
  unfold uN
  rw [← sm_0 6]
  refine sm_congr 6 (fun k _ => ?_)
  unfold u1N
  by_cases c : k < aLen A t
  · rw [if_pos c, if_pos c, if_pos (hr k c)]
  · rw [if_neg c, if_neg c]
theorem eqW_iff (a b : Nat) : aEqW A a b = 1 ↔ ∀ k, k < 7 → aT A a k = aT A b k := by
  unfold aEqW
  by_cases c : ∀ k, k < 7 → aT A a k = aT A b k
  · rw [if_pos c]
    exact ⟨fun _ => c, fun _ => rfl⟩
  · rw [if_neg c]
    exact ⟨fun z => absurd z (by decide), fun z => absurd z c⟩
theorem eqW_cg {a b : Nat} (h : ∀ k, k < 7 → aT A a k = aT A b k) (c : Nat) : aEqW A a c = aEqW A b c := by
  rcases eqW_01 (A := A) a c with z | z
  · rcases eqW_01 (A := A) b c with y | y
    · rw [z, y]
    · have : aEqW A a c = 1 := (eqW_iff a c).mpr (fun k hk => (h k hk).trans ((eqW_iff b c).mp y k hk))
      rw [z] at this
      exact absurd this (by decide)
  · have : aEqW A b c = 1 := (eqW_iff b c).mpr (fun k hk => (h k hk).symm.trans ((eqW_iff a c).mp z k hk))
    rw [z, this]
end LIKE
theorem nI_div3 : ∀ g, g < 10 → nI g / 3 = nI (g / 3) := by decide +kernel
theorem nI_nsub {a b c : Nat} (h : a ≤ c + b) (ha : a < 1000) (hb : b < 1000) (hc : c < 1000) : ¬ nI c < nI a - nI b := by
  rw [Int32.lt_iff_toInt_lt, nI_toInt (by omega)]
  have e : (nI a - nI b).toInt = (a : Int) - b := by
    rw [Int32.toInt_sub, nI_toInt (by omega), nI_toInt (by omega)]
    have h1 : ((a : Int) - b).bmod (2 ^ 32) = (a : Int) - b := by
      apply Int.bmod_eq_of_le
      · omega
      · omega
    exact h1
  rw [e]
  omega
section HALFOK
variable {w : FW} {x n : Nat} {A H S : Nat → Int32} {sv : Int32}
/-- what a line that is written leaves -/
def KL (w w' : FW) (x : Nat) : Prop := (∀ c, ¬ c = 410 → gI w' c x 0 = gI w c x 0) ∧ w'.1 = w.1 ∧ w'.2.1 = w.2.1
theorem KL.rf (w : FW) (x : Nat) : KL w w x := ⟨fun _ _ => rfl, rfl, rfl⟩
theorem KL.tr {w w' w'' : FW} {x : Nat} (h : KL w w' x) (h' : KL w' w'' x) : KL w w'' x := ⟨fun c hc => (h'.1 c hc).trans (h.1 c hc), h'.2.1.trans h.2.1, h'.2.2.trans h.2.2⟩
theorem KL.ofL (w : FW) (x L : Nat) (f : Nat → Int32) : KL w (cL w x L f) x := ⟨fun c hc => by
  unfold cL
  rw [gI_n (fun z => hc z.1)]
  show (if c = 600 ∧ x = x + 143 ∧ (0 : Nat) < L then f 0 else gI w c x 0) = _
  rw [if_neg (by omega)], rfl, rfl⟩
theorem e_holeN (C : CR w x A n H sv S) {t : Nat} (ht : t < aN A) {h : Nat} (hh : h < 2) {z : Int32} (hz : zz z = nI h) (hp : pun A t h = 0) : F_L_holeLine x (nI t) z w = some (-75, w) := by
  unfold F_L_holeLine
  rw [fg_t C.1.1, c_holeLine2 C ht hh hz hp, Option.bind_some]
  rfl
theorem e_holeP (C : CR w x A n H sv S) {t : Nat} (ht : t < aN A) {h : Nat} (hh : h < 2) {z : Int32} (hz : zz z = nI h) (hp : ¬ pun A t h = 0) : F_L_holeLine x (nI t) z w = some (nI (aLen A t), cL w x (aLen A t) (hPut 0 (aLen A t) (hlF A t h) (fun _ => 0))) := by
  unfold F_L_holeLine
  rw [fg_t C.1.1, c_holeLine1 C ht hh hz hp, Option.bind_some]
  rfl
theorem pun_1 {t h : Nat} (hp : ¬ pun A t h = 0) : ¬ aH A t h 0 = -1 ∧ pun A t h = 1 := by
  unfold pun at hp ⊢
  by_cases c : aH A t h 0 = -1
  · rw [if_pos c] at hp
    exact absurd rfl hp
  · exact ⟨c, if_neg c⟩
theorem cnt_zero (k : Nat) : cnt (fun _ => 0) k = 0 := by
  refine (cnt_sm (f := fun _ => (0 : Int32)) (g := fun _ => 0) k (fun _ _ => rfl)).trans ?_
  rw [sm_0]
  rfl
theorem l_isHalfN (C : CR w x A n H sv S) {t : Nat} (ht : t < aN A) {h : Nat} (hh : h < 2) {z : Int32} (hz : zz z = nI h) (hp : pun A t h = 0) (h3 : aH A t h 3 = 0) : F_L_isHalf x (nI t) z w = some (1, w) := by
  have X := C.X
  have hA := C.2.2.1
  have h0 := pun_0.mp hp
  obtain ⟨-, -, -, -, -, -, hH, -⟩ := hA.n.2.2 t ht
  obtain ⟨-, ⟨g, g1, g2⟩, -⟩ := hH h hh
  have eh : ∀ k, aHoles A t h k = 0 := fun k => by
    unfold aHoles
    rw [if_pos h0]
    split
    · rfl
    · rfl
  have e3 : aHolesOf A t h = 0 := by
    unfold aHolesOf
    rw [cnt_congr (g := fun _ => 0) (fun k _ => eh k), cnt_zero]
  have e4 : aLeftOf A t h = 0 := by
    unfold aLeftOf
    rw [cnt_congr (g := fun _ => 0) (fun k _ => ?_), cnt_zero]
    unfold aLeft
    rw [eh, g2, nI_div3 g g1]
    by_cases c : (0 : Int32) ≤ 0 - nI (g / 3)
    · rw [if_pos c]
      rw [Int32.le_iff_toInt_le] at c
      have : g / 3 = 0 ∨ g / 3 = 1 ∨ g / 3 = 2 ∨ g / 3 = 3 := by omega
      rcases this with y | y | y | y
      · rw [y]; rfl
      · rw [y] at c; exact absurd c (by decide)
      · rw [y] at c; exact absurd c (by decide)
      · rw [y] at c; exact absurd c (by decide)
    · rw [if_neg c]
  unfold F_L_isHalf
  rw [e_t0 X hA ht, Option.bind_some, e_h2 X hA ht hh hz, Option.bind_some, e_h3 X hA ht hh hz, Option.bind_some, e_h4 X hA ht hh hz, Option.bind_some, e_t1 X hA ht, Option.bind_some, e_h0 X hA ht hh hz, Option.bind_some, hp, if_neg (show ¬ (0 : Int32) = 1 by decide), Option.bind_some, if_pos rfl, e_h1 X hA ht hh hz, Option.bind_some, if_pos h0, if_pos e3, if_pos e4, e_h6 X hA ht hh hz, Option.bind_some, if_pos h3, e_h7 X hA ht hh hz, Option.bind_some, if_pos hp, if_pos rfl, e_readN X hA ht hh hz hp, Option.bind_some, if_pos rfl, e_moodN X hA ht hh hz hp, Option.bind_some, if_pos rfl, e_likelyN X hA ht hh hz hp, Option.bind_some, if_pos rfl, e_holeN C ht hh hz hp, Option.bind_some]
  exact if_pos rfl
theorem l_isHalfP (C : CR w x A n H sv S) {t : Nat} (ht : t < aN A) {h : Nat} (hh : h < 2) {z : Int32} (hz : zz z = nI h) (hp : ¬ pun A t h = 0) (hv : 1 ≤ nV A t) : F_L_isHalf x (nI t) z w = some (1, cL w x (aLen A t) (hPut 0 (aLen A t) (hlF A t h) (fun _ => 0))) := by
  have X := C.X
  have hA := C.2.2.1
  obtain ⟨h0, hp1⟩ := pun_1 hp
  have hT := hA.n.2.2 t ht
  have h8 := hA.n.2.1
  obtain ⟨w1, w2, w3, w4, w5, w6⟩ := tick_word hT
  obtain ⟨m, g, m1, g1, m2, g2⟩ := half_mg hT hh h0
  obtain ⟨f1, f2, f3, f4, f5, f6, f7, f8, f9⟩ := half_n hT hh h0 g2 g1
  obtain ⟨r1, r2, r3⟩ := right_n (A := A) (t := t) (h := h) (aH A t h 1) (aH A t h 0)
  have hV : aVowels A t = nI (nV A t) := w6
  have hVl : nV A t ≤ aLen A t := vow_le hT
  generalize hlen : aLen A t = len at *
  generalize hVV : nV A t = V at *
  generalize hHO : nHo A t h = HO at *
  generalize hLE : nLe A t h = LE at *
  generalize hRR : nRi A t h (aH A t h 1) (aH A t h 0) = R at *
  have hHO9 : HO ≤ 30 := by omega
  have e7 : F_L_halfOf x (nI t) z 7 w = some (nI R) := by
    rw [e_h7 X hA ht hh hz, if_neg hp, r1]
  -- the loop over the letters
  have hloop : ∀ (st : Nat → Int32 × Int32 × Int32), (∀ k, st k = (cnt (fun k => if aReads A t h k = aL A t k then 1 else 0) k, cnt (fun k => if aReads A t h k = 63 then 1 else 0) k, nI k)) → fLoopB (σ := Int32 × Int32 × Int32) (ρ := Int32 × Int32) (fun s31 => (if nI len ≤ s31.2.2 then some (.inr (s31.1, s31.2.1)) else (F_L_readAt x (nI t) z s31.2.2 w).bind (fun r45 => (F_L_wordAt x (nI t) s31.2.2 w).bind (fun r49 => ((if r45 = r49 then some 1 else some 0) : Option (Int32)).bind (fun x53 => (if r45 = 63 then some (.inl ((s31.1 + x53), (s31.2.1 + 1), (s31.2.2 + 1))) else some (.inl ((s31.1 + x53), (s31.2.1 + 0), (s31.2.2 + 1))))))))) 7 (st 0) = some (nI R, cnt (fun k => if aReads A t h k = 63 then 1 else 0) len) := by
    intro st hst
    refine fLoopB_for st len 7 (by omega) (fun k hk => ?_) ?_
    · rw [hst, hst]
      dsimp only
      rw [if_neg (nI_ge hk (by omega)), e_read X hA ht hh hz hp (by rw [hlen]; exact hk), Option.bind_some, e_word X hA ht (by rw [hlen]; exact hk), Option.bind_some, ite_some, Option.bind_some, cnt_s, cnt_s]
      by_cases c : aReads A t h k = 63
      · rw [if_pos c, if_pos c, nI_1]
      · rw [if_neg c, if_neg c, nI_1]
    · rw [hst]
      dsimp only
      rw [if_pos (nI_le (Nat.le_refl _) (by omega)), ← r1]
      unfold aRight
      rw [hlen]
      rfl
  have hloop0 := hloop (fun k => (cnt (fun k => if aReads A t h k = aL A t k then 1 else 0) k, cnt (fun k => if aReads A t h k = 63 then 1 else 0) k, nI k)) (fun _ => rfl)
  have hall : R = len → ∀ k, k < len → aReads A t h k = aL A t k := fun e => r3.mp e
  have hQ : (∀ k, k < len → ¬ aReads A t h k = 63) → cnt (fun k => if aReads A t h k = 63 then (1 : Int32) else 0) len = 0 := fun hq => by
    rw [cnt_congr (g := fun _ => 0) (fun k hk => if_neg (hq k hk)), cnt_zero]
  generalize hQQ : cnt (fun k => if aReads A t h k = 63 then (1 : Int32) else 0) len = Q at *
  have hQR : R = len → Q = 0 := fun e => hQ (fun k hk => read_q (m := aH A t h 0) h0 (w4 k hk) (hall e k hk))
  unfold F_L_isHalf
  rw [e_t0 X hA ht, Option.bind_some, e_h2 X hA ht hh hz, Option.bind_some, e_h3 X hA ht hh hz, Option.bind_some, e_h4 X hA ht hh hz, Option.bind_some, e_t1 X hA ht, Option.bind_some, e_h0 X hA ht hh hz, Option.bind_some, hp1, if_pos rfl, Option.bind_some, if_neg (show ¬ (1 : Int32) = 0 by decide), w1, f1, f2, g2, hV]
  refine ob hloop0 ?_
  rw [e_h1 X hA ht hh hz, Option.bind_some, m2]
  have h68 : ((if nI HO < nI V then some 0 else (if (5 * nI V) < nI HO then some 0 else (if nI HO < nI LE then some 0 else (if nI LE < (nI HO - (nI V * (nI g / 3))) then some 0 else (if 9 < nI g then some 0 else (if nI m < 0 then some 0 else (if 5 ≤ nI m then some 0 else some 1))))))) : Option Int32) = some 1 := by
    have hVg : V * (g / 3) ≤ 6 * 3 := Nat.mul_le_mul (by omega) (by omega)
    rw [if_neg (nI_nlt f3 (by omega)), show (5 : Int32) = nI 5 from rfl, nI_mul, if_neg (nI_nlt (by omega) (by omega)), if_neg (nI_nlt f5 (by omega)), nI_div3 g g1, nI_mul, if_neg (nI_nsub f6 (by omega) (by omega) (by omega)), if_neg (show ¬ (9 : Int32) < nI g from nI_nlt (b := g) (a := 9) (by omega) (by decide)), if_neg (nI_pos (by omega)), if_neg (nI_ge m1 (by decide))]
  have h77 : ((if nI R = nI R then (if nI R < (nI len - nI V) then some 0 else (if 2 < nI g then (F_L_would x (nI t) z 0 w).bind (fun r137 => (if r137 = nI R then (F_L_readAt x (nI t) z (nI len) w).bind (fun r142 => (if r142 = (-75) then some 1 else some 0)) else some 0)) else (if nI R = nI len then (if nI LE = nI HO then (if Q = 0 then (F_L_would x (nI t) z 0 w).bind (fun r150 => (if r150 = nI R then (F_L_readAt x (nI t) z (nI len) w).bind (fun r155 => (if r155 = (-75) then some 1 else some 0)) else some 0)) else some 0) else some 0) else some 0))) else some 0) : Option Int32) = some 1 := by
    have er := e_readE X hA ht hh hz
    rw [w1] at er
    have ew := e_would0 X hA ht hh hz hp
    rw [r1] at ew
    rw [if_pos rfl, if_neg (nI_nsub (by omega) (by omega) (by omega) (by omega))]
    by_cases c : g < 3
    · have hR := f9 c
      rw [if_neg (show ¬ (2 : Int32) < nI g from nI_nlt (b := g) (a := 2) (by omega) (by decide)), if_pos (by rw [hR]), if_pos (by rw [f7 c]), if_pos (hQR hR), ew, Option.bind_some, if_pos rfl, er, Option.bind_some, if_pos rfl]
    · rw [if_pos (show (2 : Int32) < nI g from nI_lt (a := 2) (by omega) (by omega)), ew, Option.bind_some, if_pos rfl, er, Option.bind_some, if_pos rfl]
  have h82 : ∃ mf, F_L_moodFor x (nI t) z w = some mf ∧ ((if mf = (-75) then (if nI len ≤ nI R then some 0 else some 1) else (if mf < 0 then some 0 else (if 5 ≤ mf then some 0 else (if Q = 0 then ((if nI len ≤ nI R then some 0 else some 1) : Option (Int32)).bind (fun x120 => ((if mf = nI m then some 0 else some 1) : Option (Int32)).bind (fun x125 => (if x120 = x125 then some 1 else some 0))) else some 0)))) : Option Int32) = some 1 := by
    rcases e_moodP X hA ht hh hz hp with ⟨mf, k1, k2, k3⟩ | ⟨k2, k3⟩
    · refine ⟨_, k3, ?_⟩
      have q2 : nRi A t h (aH A t h 1) (nI mf) = aLen A t := by
        obtain ⟨y1, y2, -⟩ := right_n (A := A) (t := t) (h := h) (aH A t h 1) (nI mf)
        rw [y1, w1, ← hlen] at k2
        exact (nI_eq (by omega) (by omega)).mp k2
      have hq : Q = 0 := hQ (fun k hk => read_q (m := nI mf) h0 (w4 k hk) ((right_n _ _).2.2.mp q2 k (by rw [hlen]; exact hk)))
      have hiff : R = len ↔ mf = m := by
        constructor
        · intro e
          refine mood_one hT hh h0 (by rw [hVV]; exact hv) g1 k1 m1 (by rw [← g2]; exact q2) ?_
          rw [← g2, ← m2, hRR, e, hlen]
        · intro e
          rw [← hRR, m2, ← e, q2, hlen]
      rw [if_neg (show ¬ nI mf = -75 from fun z9 => by
        have := congrArg Int32.toInt z9
        rw [nI_toInt (by omega)] at this
        have e9 : (-75 : Int32).toInt = -75 := by decide
        rw [e9] at this
        omega), if_neg (nI_pos (by omega)), if_neg (show ¬ (5 : Int32) ≤ nI mf from nI_ge k1 (by decide)), if_pos hq]
      by_cases c : R = len
      · rw [if_pos (nI_le (by omega) (by omega)), Option.bind_some, if_pos (by rw [hiff.mp c]), Option.bind_some, if_pos rfl]
      · rw [if_neg (nI_ge (by omega) (by omega)), Option.bind_some, if_neg (fun z9 => c (hiff.mpr ((nI_eq (by omega) (by omega)).mp z9))), Option.bind_some, if_pos rfl]
    · refine ⟨_, k3, ?_⟩
      have hne : ¬ R = len := fun e => k2 m m1 (by rw [← m2, r1, e, w1])
      rw [if_pos rfl, if_neg (nI_ge (by omega) (by omega))]
  obtain ⟨mf, k3, h82⟩ := h82
  rw [k3, Option.bind_some]
  refine ob h68 ?_
  rw [e7, Option.bind_some]
  refine ob h77 ?_
  refine ob h82 ?_
  rw [e_likelyP X hA ht hh hz hp, Option.bind_some, if_neg (show ¬ (1 : Int32) = 0 by decide), if_neg (show ¬ (1 : Int32) = 0 by decide), if_neg (show ¬ (1 : Int32) = 0 by decide)]
  obtain ⟨b1, b2, b3, b4⟩ := best_min (A := A) (t := t) (h := h) (aN A)
  have b2' := b2 (by omega)
  rw [if_neg (nI_pos (by omega))]
  have eh := e_holeP C ht hh hz hp
  rw [hlen] at eh
  by_cases c : R = len
  · have hr := hall c
    have hu0 : uN A t h (aBest A t h (aN A)) = 0 := by
      have := b3 t ht
      rw [un_self (by rw [hlen]; exact hr)] at this
      omega
    have hw := un_word hA ht b2' (by rw [hlen]; exact hr) hu0
    have hle : aBest A t h (aN A) ≤ t := by
      by_cases y : t < aBest A t h (aN A)
      · have := b4 t y
        rw [un_self (by rw [hlen]; exact hr)] at this
        omega
      · omega
    have hs : cnt (fun u => if aEqW A (aBest A t h (aN A)) u = 0 then (0 : Int32) else 1) (aN A) = cnt (fun u => if aEqW A t u = 0 then (0 : Int32) else 1) (aN A) := cnt_congr (fun u _ => by
      rw [eqW_cg hw u])
    rw [if_neg (nI_nlt (by omega) (by omega)), e_share X hA b2', Option.bind_some, e_share X hA ht, Option.bind_some, if_pos hs, if_neg (nI_nlt hle (by omega)), eh, Option.bind_some]
    exact if_pos rfl
  · rw [if_pos (nI_lt (by omega) (by omega)), eh, Option.bind_some]
    exact if_pos rfl
end HALFOK
