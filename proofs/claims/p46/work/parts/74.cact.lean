/-! The class: its acts: drafts, moods, piers, days -/
/-- what an act leaves: done (the office at o holds the new array), refused, or an argument is wrong -/
def CA (w : FW) (x o : Nat) (k : Int32) (r : Out) (out : Option (Int32 × FW)) : Prop :=
  (r.1 = 0 ∧ ∃ w', out = some (0, w') ∧ Fr w w' (bl o 46) ∧ OS w' o ∧ OR w' o r.2.2) ∨
  (0 < r.1 ∧ out = some (3, sI (sI w 411 x 0 r.1) 412 x 0 r.2.1)) ∨ (r.1 = -1 ∧ out = some (k, w)) ∨ (r.1 = -2 ∧ out = some (2, w))
theorem c_refuse {w : FW} {x : Nat} (x1 : w.1 x = 5) (a b : Int32) : F_X4_refuse x a b w = some (3, sI (sI w 411 x 0 a) 412 x 0 b) := fg_t x1
theorem CA.no {w : FW} {x o : Nat} {k : Int32} {r : Out} {a b : Int32} (hr : r = (a, b, r.2.2)) (ha : 0 < a) : CA w x o k r (some (3, sI (sI w 411 x 0 a) 412 x 0 b)) := by
  rw [hr]
  exact Or.inr (Or.inl ⟨ha, rfl⟩)
theorem CA.bad1 {w : FW} {x o : Nat} {k b : Int32} {A : Nat → Int32} : CA w x o k (-1, b, A) (some (k, w)) := Or.inr (Or.inr (Or.inl ⟨rfl, rfl⟩))
theorem CA.bad2 {w : FW} {x o : Nat} {k b : Int32} {A : Nat → Int32} : CA w x o k (-2, b, A) (some (2, w)) := Or.inr (Or.inr (Or.inr ⟨rfl, rfl⟩))
theorem CA.ok {w w' : FW} {x o : Nat} {k b : Int32} {A : Nat → Int32} (hf : Fr w w' (bl o 46)) (hs : OS w' o) (hr : OR w' o A) : CA w x o k (0, b, A) (some (0, w')) := Or.inl ⟨rfl, w', rfl, hf, hs, hr⟩
/-- an office whose numbers are changed and whose tickets stay -/
theorem OR.low {w w' : FW} {o : Nat} {A A' : Nat → Int32} (hr : OR w o A) (hs : OS w o) (hA : WA A) (hf : Fr w w' (bl o 6)) (r1 : ∀ t, gR w' 604 (o + 1) t = gR w 604 (o + 1) t) (hN : A' 0 = A 0) (hhi : ∀ i, 17 ≤ i → A' i = A i) (g0 : gI w' 101 o 0 = A 0) (g1 : gI w' 105 o 0 = A' 1) (g2 : gI w' 106 o 0 = A' 2) (g3 : gI w' 107 o 0 = A' 3) (g4 : gI w' 108 o 0 = A' 4) (g5 : gI w' 109 o 0 = A' 5) (gm : ∀ p, p < 3 → gI w' 601 (o + 4) p = A' (7 + p)) (gp : ∀ p, p < 5 → gI w' 602 (o + 5) p = if aShut A' p = 0 then 1 else 0) (gd : WR w' (o + 2) (A' 10).toNatClampNeg (fun k => A' (11 + k))) : OR w' o A' := by
  obtain ⟨hn, h8, hT⟩ := hA.n
  have eN : aN A' = aN A := by unfold aN; rw [hN]
  refine ⟨g0.trans hN.symm, g1, g2, g3, g4, g5, gm, gp, gd, fun t ht => ?_⟩
  rw [eN] at ht
  obtain ⟨b1, b2, b3⟩ := hs.tkt (t := t) (by omega)
  have : tk w' o t = tk w o t := r1 t
  rw [this]
  exact ((hr.2.2.2.2.2.2.2.2.2 t ht).fr hf (fun q h1 h2 z => by obtain ⟨z1, z2⟩ := z; omega)).to (fun e he => hhi _ (by omega)) (hT t ht).len.2
/-- one number of an office is changed -/
theorem OR.n1 {w : FW} {o : Nat} {A : Nat → Int32} (hr : OR w o A) (hs : OS w o) (hA : WA A) {c j : Nat} (hc : (c = 105 ∧ j = 1) ∨ (c = 106 ∧ j = 2) ∨ (c = 107 ∧ j = 3) ∨ (c = 108 ∧ j = 4) ∨ (c = 109 ∧ j = 5)) (v : Int32) : OS (sI w c o 0 v) o ∧ OR (sI w c o 0 v) o (up A j v) := by
  have hc6 : ¬ c = 600 ∧ ¬ c = 601 ∧ ¬ c = 602 ∧ ¬ c = 301 ∧ ¬ c = 101 := by omega
  have hj : ¬ (0 : Nat) = j ∧ ¬ (6 : Nat) = j ∧ ¬ (10 : Nat) = j := by omega
  obtain ⟨a1, a2, a3, a4, a5, a6, am, ap, ad, at9⟩ := id hr
  refine ⟨hs.num rfl rfl (fun _ _ _ => rfl) (fun a i => by rw [gI_sI, if_neg (fun z => hc6.1 z.1.symm)]), ?_⟩
  refine hr.low hs hA (Fr.sI _ _ _ _ _ (bl_in (by omega) (by omega))) (fun _ => rfl) (up_n hj.1) (fun i hi => up_n (by omega)) (by rw [gI_sI, if_neg (fun z => hc6.2.2.2.2 z.1.symm)]; exact a1) ?_ ?_ ?_ ?_ ?_ (fun p hp => ?_) (fun p hp => ?_) ?_
  · rcases hc with ⟨rfl, rfl⟩ | ⟨rfl, rfl⟩ | ⟨rfl, rfl⟩ | ⟨rfl, rfl⟩ | ⟨rfl, rfl⟩ <;> simp [gI_sI, up_e, a2]
  · rcases hc with ⟨rfl, rfl⟩ | ⟨rfl, rfl⟩ | ⟨rfl, rfl⟩ | ⟨rfl, rfl⟩ | ⟨rfl, rfl⟩ <;> simp [gI_sI, up_e, a3]
  · rcases hc with ⟨rfl, rfl⟩ | ⟨rfl, rfl⟩ | ⟨rfl, rfl⟩ | ⟨rfl, rfl⟩ | ⟨rfl, rfl⟩ <;> simp [gI_sI, up_e, a4]
  · rcases hc with ⟨rfl, rfl⟩ | ⟨rfl, rfl⟩ | ⟨rfl, rfl⟩ | ⟨rfl, rfl⟩ | ⟨rfl, rfl⟩ <;> simp [gI_sI, up_e, a5]
  · rcases hc with ⟨rfl, rfl⟩ | ⟨rfl, rfl⟩ | ⟨rfl, rfl⟩ | ⟨rfl, rfl⟩ | ⟨rfl, rfl⟩ <;> simp [gI_sI, up_e, a6]
  · rw [gI_sI, if_neg (fun z => hc6.2.1 z.1.symm), up_n (by omega)]
    exact am p hp
  · rw [gI_sI, if_neg (fun z => hc6.2.2.1 z.1.symm), shut_congr (up_n hj.2.1)]
    exact ap p hp
  · rw [up_n hj.2.2]
    refine ⟨by rw [gI_sI, if_neg (fun z => hc6.2.2.2.1 z.1.symm)]; exact ad.1, fun k hk => ?_⟩
    have := hA.d.2
    show _ = up A j v (11 + k)
    rw [gI_sI, if_neg (fun z => hc6.1 z.1.symm), up_n (by omega)]
    exact ad.2 k hk
section CJ
variable {w : FW} {x o : Nat} {A : Nat → Int32}
theorem t_day (X : XO w x o A) : CA w x o 1 (sDay A) (F_X4_letDayGoBy x w) := by
  obtain ⟨x1, x2, K⟩ := X
  unfold F_X4_letDayGoBy sDay
  rw [fg_t x1, x2, fg_t K.1.1, K.2.1.2.1]
  obtain ⟨h1, h2⟩ := K.2.1.n1 K.1 K.2.2 (c := 105) (j := 1) (by omega) (A 1 + 1)
  exact CA.ok (Fr.sI _ _ _ _ _ (bl_in (by omega) (by omega))) h1 h2
theorem t_mood (X : XO w x o A) (p m : Int32) : CA w x o 1 (sMood p m A) (F_X4_tryMood x p m w) := by
  obtain ⟨x1, x2, K⟩ := X
  obtain ⟨k1, k2, l1, k3, l2, k4, l3, r1, r2, r3, r4⟩ := K.s
  obtain ⟨a1, a2, a3, a4, a5, a6, am, ap, ad, at9⟩ := id K.2.1
  unfold F_X4_tryMood sMood
  rw [c_isPuncher, Option.bind_some]
  by_cases hp : inn p 0 2 = 0
  · rw [if_pos hp, if_pos hp]
    exact CA.bad1
  rw [if_neg hp, if_neg hp]
  have e9 : (if m < 0 then (0 : Int32) else if m < 5 then 1 else 0) = inn m 0 4 := by
    rw [show (4 : Int32) = nI 5 - 1 from rfl, inn_le (by omega)]
    by_cases h : m < 0
    · rw [if_pos h, if_pos h]
    · rw [if_neg h, if_neg h]
      by_cases h2 : m < 5
      · rw [if_pos h2, if_neg (show ¬ nI 5 ≤ m from nle9 h2)]
      · rw [if_neg h2, if_pos (show nI 5 ≤ m from le9 h2)]
  by_cases hm : inn m 0 4 = 0
  · rw [if_pos hm]
    rw [hm] at e9
    by_cases c1 : m < 0
    · rw [if_pos c1]
      exact CA.bad2
    rw [if_neg c1] at e9 ⊢
    by_cases c2 : m < 5
    · rw [if_pos c2] at e9
      exact absurd e9 (by decide)
    rw [if_neg c2]
    exact CA.bad2
  rw [if_neg hm]
  have c1 : ¬ m < 0 := fun z => by
    rw [if_pos z] at e9
    exact hm e9.symm
  have c2 : m < 5 := by
    by_cases z : m < 5
    · exact z
    · rw [if_neg c1, if_neg z] at e9
      exact absurd e9.symm hm
  obtain ⟨j, -, hj, rfl⟩ := inn_1 (a := 0) (b := 2) (by omega) (by omega) hp
  have e1 := nI_clamp (n := j) (by omega)
  rw [if_neg c1, if_pos c2, fg_t x1, x2, fg_t k1, r3, fg_t k3, fg_t (by rw [l2]; exact nI_in (by omega) (by omega)), e1, am j (by omega)]
  by_cases hw : A (7 + j) = m
  · rw [if_pos hw, if_pos hw, c_refuse x1, Option.bind_some]
    exact CA.no rfl (by decide)
  rw [if_neg hw, if_neg hw]
  refine CA.ok (Fr.sI _ _ _ _ _ (bl_in (by omega) (by omega))) (K.1.num rfl rfl (fun _ _ _ => rfl) (fun a i => by rw [gI_sI, if_neg (fun z => absurd z.1 (by decide))])) ?_
  refine K.2.1.low K.1 K.2.2 (Fr.sI _ _ _ _ _ (bl_in (by omega) (by omega))) (fun _ => rfl) (up_n (by omega)) (fun i hi => up_n (by omega)) ?_ ?_ ?_ ?_ ?_ ?_ (fun q hq => ?_) (fun q hq => ?_) ?_
  · simp [gI_sI, a1]
  · rw [up_n (by omega)]; simp [gI_sI, a2]
  · rw [up_n (by omega)]; simp [gI_sI, a3]
  · rw [up_n (by omega)]; simp [gI_sI, a4]
  · rw [up_n (by omega)]; simp [gI_sI, a5]
  · rw [up_n (by omega)]; simp [gI_sI, a6]
  · by_cases c : q = j
    · rw [c, gI_s, up_s]
    · rw [gI_sI, if_neg (fun z => c z.2.2), up_n (by omega)]
      exact am q hq
  · rw [gI_sI, if_neg (fun z => absurd z.1 (by decide)), shut_congr (up_n (by omega))]
    exact ap q hq
  · rw [up_n (by omega)]
    refine ⟨by rw [gI_sI, if_neg (fun z => absurd z.1 (by decide))]; exact ad.1, fun k hk => ?_⟩
    have := K.2.2.d.2
    show _ = up A (7 + j) m (11 + k)
    rw [gI_sI, if_neg (fun z => absurd z.1 (by decide)), up_n (by omega)]
    exact ad.2 k hk
def shb (v : Int32) (p : Nat) : Int32 := if (v >>> (nI p &&& 31)) &&& 1 = 1 then 1 else 0
theorem shx : ∀ b, b < 32 → ∀ p, p < 5 → ∀ q, q < 5 → shb (nI b ^^^ (1 <<< (nI p &&& 31))) q = if q = p then (if shb (nI b) p = 0 then 1 else 0) else shb (nI b) q := by decide +kernel
theorem shy : ∀ b, b < 32 → ∀ p, p < 5 → (nI b ^^^ (1 <<< (nI p &&& 31))) = nI (b ^^^ 2 ^ p) ∧ b ^^^ 2 ^ p < 32 := by decide +kernel
theorem t_pier (X : XO w x o A) (p : Int32) {z : Int32} (hz : z = 0 ∨ z = 1) : CA w x o 1 (sPier p z A) (F_X4_tryPier x p z w) := by
  obtain ⟨x1, x2, K⟩ := X
  obtain ⟨k1, k2, l1, k3, l2, k4, l3, r1, r2, r3, r4⟩ := K.s
  obtain ⟨a1, a2, a3, a4, a5, a6, am, ap, ad, at9⟩ := id K.2.1
  unfold F_X4_tryPier sPier
  rw [c_isPier, Option.bind_some]
  by_cases hp : inn p 0 4 = 0
  · rw [if_pos hp, if_pos hp]
    exact CA.bad1
  rw [if_neg hp, if_neg hp]
  obtain ⟨j, -, hj, rfl⟩ := inn_1 (a := 0) (b := 4) (by omega) (by omega) hp
  have e1 := nI_clamp (n := j) (by omega)
  rw [fg_t x1, x2, fg_t k1, r4, fg_t k4, fg_t (by rw [l3]; exact nI_in (by omega) (by omega)), e1, ap j (by omega), ite_some, Option.bind_some, c_refuse x1, Option.bind_some]
  by_cases hw : aShut A j = z
  · have hne : ¬ (if aShut A j = 0 then (1 : Int32) else 0) = z := by
      rw [hw]
      rcases hz with rfl | rfl <;> decide
    rw [if_pos hw, if_neg hne, fg_t hz]
    have h6 := K.2.2.2.2.2.1
    obtain ⟨b, hb, e6⟩ := h6
    have hS : ∀ q, q < 5 → aShut (up A 6 (A 6 ^^^ (1 <<< (nI j &&& 31)))) q = if q = j then (if aShut A j = 0 then 1 else 0) else aShut A q := by
      intro q hq
      have e0 : ∀ q, aShut A q = shb (nI b) q := fun q => by unfold aShut shb; rw [e6]
      have e2 : aShut (up A 6 (A 6 ^^^ (1 <<< (nI j &&& 31)))) q = shb (nI b ^^^ (1 <<< (nI j &&& 31))) q := by unfold aShut shb; rw [up_s, e6]
      rw [e2, e0, e0]
      exact shx b hb j (by omega) q hq
    refine CA.ok (Fr.sI _ _ _ _ _ (bl_in (by omega) (by omega))) (K.1.num rfl rfl (fun _ _ _ => rfl) (fun a i => by rw [gI_sI, if_neg (fun z => absurd z.1 (by decide))])) ?_
    refine K.2.1.low K.1 K.2.2 (Fr.sI _ _ _ _ _ (bl_in (by omega) (by omega))) (fun _ => rfl) (up_n (by omega)) (fun i hi => up_n (by omega)) ?_ ?_ ?_ ?_ ?_ ?_ (fun q hq => ?_) (fun q hq => ?_) ?_
    · simp [gI_sI, a1]
    · rw [up_n (by omega)]; simp [gI_sI, a2]
    · rw [up_n (by omega)]; simp [gI_sI, a3]
    · rw [up_n (by omega)]; simp [gI_sI, a4]
    · rw [up_n (by omega)]; simp [gI_sI, a5]
    · rw [up_n (by omega)]; simp [gI_sI, a6]
    · rw [gI_sI, if_neg (fun z => absurd z.1 (by decide)), up_n (by omega)]
      exact am q hq
    · rw [hS q hq]
      by_cases c : q = j
      · rw [c, gI_s, if_pos rfl, hw]
        rcases hz with rfl | rfl <;> rfl
      · rw [gI_sI, if_neg (fun z => c z.2.2), if_neg c]
        exact ap q hq
    · rw [up_n (by omega)]
      refine ⟨by rw [gI_sI, if_neg (fun z => absurd z.1 (by decide))]; exact ad.1, fun k hk => ?_⟩
      show _ = up A 6 (A 6 ^^^ (1 <<< (nI j &&& 31))) (11 + k)
      rw [gI_sI, if_neg (fun z => absurd z.1 (by decide)), up_n (by omega)]
      exact ad.2 k hk
  · have hne : (if aShut A j = 0 then (1 : Int32) else 0) = z := by
      rcases shut_01 A j with h | h
      · rw [h] at hw ⊢
        rcases hz with rfl | rfl
        · exact absurd rfl hw
        · rfl
      · rw [h] at hw ⊢
        rcases hz with rfl | rfl
        · rfl
        · exact absurd rfl hw
    rw [if_neg hw, if_pos hne]
    exact CA.no rfl (by decide)
/-- the draft alone is changed -/
theorem OR.draft {w' : FW} {A' : Nat → Int32} (K : KO w o A) (hf : Fr w w' (bl (o + 2) 2)) (hs : WS w' (o + 2)) (hlo : ∀ i, i < 10 → A' i = A i) (hhi : ∀ i, 17 ≤ i → A' i = A i) (gd : WR w' (o + 2) (A' 10).toNatClampNeg (fun k => A' (11 + k))) : OS w' o ∧ OR w' o A' := by
  obtain ⟨a1, a2, a3, a4, a5, a6, am, ap, ad, at9⟩ := id K.2.1
  have nb : ∀ q, q = o ∨ q = o + 1 ∨ q = o + 4 ∨ q = o + 5 → ¬ bl (o + 2) 2 q := fun q h z => by obtain ⟨z1, z2⟩ := z; omega
  have g : ∀ c i, gI w' c o i = gI w c o i := fun c i => hf.2.2.1 _ _ _ (nb _ (by omega))
  refine ⟨K.1.again hf.1 hf.2.1 (fun c i => hf.2.2.2 _ _ _ (nb _ (by omega))) (fun c i => hf.2.2.2 _ _ _ (nb _ (by omega))) hs (fun j hj => (K.1.2.2.2.2.2.2.2.2.2.2.2.2.1 j hj).fr hf (fun q h1 h2 z => by obtain ⟨z1, z2⟩ := z; omega)), ?_⟩
  refine K.2.1.low K.1 K.2.2 (hf.mono (fun q z => by obtain ⟨z1, z2⟩ := z; exact ⟨by omega, by omega⟩)) (fun t => hf.2.2.2 _ _ _ (nb _ (by omega))) (hlo 0 (by omega)) hhi ((g _ _).trans a1) ?_ ?_ ?_ ?_ ?_ (fun q hq => ?_) (fun q hq => ?_) gd
  · rw [g, a2, hlo 1 (by omega)]
  · rw [g, a3, hlo 2 (by omega)]
  · rw [g, a4, hlo 3 (by omega)]
  · rw [g, a5, hlo 4 (by omega)]
  · rw [g, a6, hlo 5 (by omega)]
  · rw [hf.2.2.1 _ _ _ (nb _ (by omega)), am q hq, hlo (7 + q) (by omega)]
  · rw [hf.2.2.1 _ _ _ (nb _ (by omega)), ap q hq, shut_congr (hlo 6 (by omega))]
/-- a letter is put behind a word -/
theorem c_add {d n : Nat} {f : Nat → Int32} (hs : WS w d) (hr : WR w d n f) (h6 : n < 6) {c : Int32} (hc : fch c = c) : ∃ w', F_X3_add d c w = some w' ∧ Fr w w' (bl d 2) ∧ WS w' d ∧ WR w' d (n + 1) (fun k => if k = n then c else f k) := by
  obtain ⟨y1, y2, y3, y4, y5⟩ := id hs
  have e1 := nI_clamp (n := n) (by omega)
  refine ⟨sI (sI w 600 (d + 1) n c) 301 d 0 (nI n + 1), ?_, ?_, ?_, ?_⟩
  · unfold F_X3_add
    rw [fg_t y1, hr.1, if_neg (show ¬ (6 : Int32) ≤ nI n from nI_ge (b := 6) h6 (by decide)), y4, fg_t y2, fg_t (by rw [y3]; exact nI_in h6 (by decide)), fg_t hc, e1]
    rw [gI_sI, if_neg (fun z => absurd z.1 (by decide)), hr.1]
  · exact (Fr.sI _ _ _ _ _ (bl_in (by omega) (by omega))).tr (Fr.sI _ _ _ _ _ (bl_in (by omega) (by omega)))
  · refine ⟨y1, y2, y3, y4, fun k hk => ?_⟩
    rw [gI_sI, if_neg (fun z => absurd z.1 (by decide)), gI_sI]
    split
    · exact hc
    · exact y5 k hk
  · refine ⟨by rw [gI_s, nI_1], fun k hk => ?_⟩
    show _ = if k = n then c else f k
    rw [gI_sI, if_neg (fun z => absurd z.1 (by decide)), gI_sI]
    by_cases ck : k = n
    · rw [if_pos ⟨rfl, rfl, ck⟩, if_pos ck]
    · rw [if_neg (fun z => ck z.2.2), if_neg ck]
      exact hr.2 k (by omega)
theorem t_letter (X : XO w x o A) (c : Int32) : CA w x o 2 (sLetter c A) (F_X4_tryLetter x c w) := by
  obtain ⟨x1, x2, K⟩ := X
  obtain ⟨k1, k2, l1, k3, l2, k4, l3, r1, r2, r3, r4⟩ := K.s
  obtain ⟨n, h6, e10, -⟩ := K.2.2.2.1
  have e1 := nI_clamp (n := n) (by omega)
  have ad := K.2.1.2.2.2.2.2.2.2.2.1
  rw [e10, e1] at ad
  have hws := K.1.2.2.2.2.2.2.2.2.2.2.2.1
  unfold F_X4_tryLetter sLetter
  rw [c_isLetter, Option.bind_some]
  by_cases hl : isLet c = 0
  · rw [if_pos hl, if_pos hl]
    exact CA.bad1
  rw [if_neg hl, if_neg hl, fg_t x1, x2, fg_t k1, r2, fg_t hws.1, ad.1, e10, e1]
  by_cases h9 : n = 6
  · rw [if_neg (show ¬ nI n < (6 : Int32) from nI_nlt (b := 6) (by omega) (by omega)), if_pos (by rw [h9]; rfl), c_refuse x1, Option.bind_some]
    exact CA.no rfl (by decide)
  · obtain ⟨w', ea, fa, sa, ra⟩ := c_add hws ad (by omega) (isLet_fch ((isLet_01 c).resolve_left hl))
    rw [if_pos (show nI n < (6 : Int32) from nI_lt (b := 6) (by omega) (by decide)), if_neg (show ¬ nI n = (6 : Int32) by rw [show (6 : Int32) = nI 6 from rfl, nI_inj (by omega) (by omega)]; exact h9), ea, Option.bind_some]
    have gd : OS w' o ∧ OR w' o (up (up A (11 + n) c) 10 (nI n + 1)) := by
      refine OR.draft K fa sa (fun i hi => by rw [up_n (by omega), up_n (by omega)]) (fun i hi => by rw [up_n (by omega), up_n (by omega)]) ?_
      rw [up_s, nI_1, nI_clamp (by omega)]
      refine ra.to (fun k hk => ?_)
      show _ = up (up A (11 + n) c) 10 (nI (n + 1)) (11 + k)
      rw [up_n (by omega)]
      by_cases ck : k = n
      · rw [if_pos ck, ck, up_s]
      · rw [if_neg ck, up_n (by omega)]
    exact CA.ok (fa.mono (fun q z => by obtain ⟨z1, z2⟩ := z; exact ⟨by omega, by omega⟩)) gd.1 gd.2
theorem t_unletter (X : XO w x o A) : CA w x o 1 (sUnletter A) (F_X4_tryUnletter x w) := by
  obtain ⟨x1, x2, K⟩ := X
  obtain ⟨k1, k2, l1, k3, l2, k4, l3, r1, r2, r3, r4⟩ := K.s
  obtain ⟨n, h6, e10, -⟩ := K.2.2.2.1
  have e1 := nI_clamp (n := n) (by omega)
  have ad := K.2.1.2.2.2.2.2.2.2.2.1
  rw [e10, e1] at ad
  have hws := K.1.2.2.2.2.2.2.2.2.2.2.2.1
  unfold F_X4_tryUnletter sUnletter
  rw [fg_t x1, x2, fg_t k1, r2, fg_t hws.1, ad.1, e10, e1, K.2.1.1]
  cases n with
  | zero =>
    rw [if_neg (show ¬ 0 < nI 0 by decide), if_pos (show nI 0 = 0 from rfl), c_refuse x1, Option.bind_some]
    exact CA.no rfl (by decide)
  | succ n =>
    rw [if_pos (show 0 < nI (n + 1) from nI_lt (a := 0) (by omega) (by omega)), if_neg (show ¬ nI (n + 1) = 0 by rw [nI_z0 (by omega)]; omega), nI_pred]
    have gd : OS (sI w 301 (o + 2) 0 (nI n)) o ∧ OR (sI w 301 (o + 2) 0 (nI n)) o (up (up A (10 + (n + 1)) 0) 10 (nI n)) := by
      refine OR.draft K (Fr.sI _ _ _ _ _ (bl_in (by omega) (by omega))) ⟨hws.1, hws.2.1, hws.2.2.1, hws.2.2.2.1, fun k hk => by rw [gI_sI, if_neg (fun z => absurd z.1 (by decide))]; exact hws.2.2.2.2 k hk⟩ (fun i hi => by rw [up_n (by omega), up_n (by omega)]) (fun i hi => by rw [up_n (by omega), up_n (by omega)]) ?_
      rw [up_s, nI_clamp (by omega)]
      refine ⟨gI_s _ _ _ _ _, fun k hk => ?_⟩
      show _ = up (up A (10 + (n + 1)) 0) 10 (nI n) (11 + k)
      rw [gI_sI, if_neg (fun z => absurd z.1 (by decide)), up_n (by omega), up_n (by omega)]
      exact ad.2 k (by omega)
    exact CA.ok (Fr.sI _ _ _ _ _ (bl_in (by omega) (by omega))) gd.1 gd.2
end CJ
