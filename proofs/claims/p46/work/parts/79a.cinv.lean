/-! The class: its eleven offices; what is pushed on its past -/
def bs (x i : Nat) : Nat := if i < 3 then x + 1 + 46 * i else x + 144 + 46 * (i - 3)
/-- its offices: now, spare, saved, then the past -/
def OFF (w : FW) (x j : Nat) : Nat := if j = 0 then gR w 400 x 0 else if j = 1 then gR w 401 x 0 else if j = 2 then x + 93 else gR w 603 (x + 139) (j - 3)
def CI (w : FW) (x : Nat) : Prop := w.1 x = 5 ∧ gR w 402 x 0 = x + 93 ∧ gR w 404 x 0 = x + 139 ∧ w.1 (x + 139) = 13 ∧ w.2.1 (x + 139) = 8 ∧ gR w 406 x 0 = x + 140 ∧ WS w (x + 140) ∧ gR w 407 x 0 = x + 142 ∧ w.1 (x + 142) = 10 ∧ w.2.1 (x + 142) = 60 ∧ gR w 409 x 0 = x + 143 ∧ w.1 (x + 143) = 10 ∧ w.2.1 (x + 143) = 17 ∧
  (∀ i, i < 11 → OS w (bs x i)) ∧ (∀ j, j < 11 → ∃ i, i < 11 ∧ OFF w x j = bs x i) ∧ ∀ j k, j < 11 → k < 11 → OFF w x j = OFF w x k → j = k
theorem bs_r (x i : Nat) (hi : i < 11) : x + 1 ≤ bs x i ∧ bs x i + 46 ≤ x + 512 ∧ (bs x i + 46 ≤ x + 139 ∨ x + 144 ≤ bs x i) := by
  unfold bs
  split <;> omega
theorem CI.off {w : FW} {x j : Nat} (h : CI w x) (hj : j < 11) : OS w (OFF w x j) ∧ x + 1 ≤ OFF w x j ∧ OFF w x j + 46 ≤ x + 512 ∧ (OFF w x j + 46 ≤ x + 139 ∨ x + 144 ≤ OFF w x j) := by
  obtain ⟨-, -, -, -, -, -, -, -, -, -, -, -, -, h1, h2, -⟩ := h
  obtain ⟨i, hi, e⟩ := h2 j hj
  rw [e]
  exact ⟨h1 i hi, bs_r x i hi⟩
theorem CI.dj {w : FW} {x j k : Nat} (h : CI w x) (hj : j < 11) (hk : k < 11) (hne : ¬ j = k) : OFF w x j + 46 ≤ OFF w x k ∨ OFF w x k + 46 ≤ OFF w x j := by
  obtain ⟨-, -, -, -, -, -, -, -, -, -, -, -, -, h1, h2, h3⟩ := h
  obtain ⟨i, hi, e⟩ := h2 j hj
  obtain ⟨i', hi', e'⟩ := h2 k hk
  have : ¬ bs x i = bs x i' := fun z => hne (h3 j k hj hk (by rw [e, e', z]))
  rw [e, e']
  unfold bs at this ⊢
  split <;> split <;> split at this <;> omega
theorem OFF_0 (w : FW) (x : Nat) : OFF w x 0 = gR w 400 x 0 := rfl
theorem OFF_1 (w : FW) (x : Nat) : OFF w x 1 = gR w 401 x 0 := rfl
theorem OFF_p (w : FW) (x : Nat) {j : Nat} (h : 3 ≤ j) : OFF w x j = gR w 603 (x + 139) (j - 3) := by
  unfold OFF
  rw [if_neg (by omega), if_neg (by omega), if_neg (by omega)]
theorem off_sI (w : FW) (c a i : Nat) (v : Int32) (x j : Nat) : OFF (sI w c a i v) x j = OFF w x j := rfl
/-- a change of one office leaves the others -/
theorem CI.of {w w' : FW} {x j : Nat} (h : CI w x) (hj : j < 11) (hf : Fr w w' (bl (OFF w x j) 46)) (hs : OS w' (OFF w x j)) : CI w' x ∧ ∀ k, OFF w' x k = OFF w x k := by
  have hb := h.off hj
  have nx : ∀ q, q = x ∨ (x + 139 ≤ q ∧ q < x + 144) → ¬ bl (OFF w x j) 46 q := fun q hq z => by obtain ⟨z1, z2⟩ := z; omega
  have eo : ∀ k, OFF w' x k = OFF w x k := fun k => by
    unfold OFF
    rw [hf.2.2.2 _ _ _ (nx x (by omega)), hf.2.2.2 _ _ _ (nx x (by omega)), hf.2.2.2 _ _ _ (nx (x + 139) (by omega))]
  obtain ⟨a1, a2, a3, a4, a5, a6, a7, a8, a9, a10, a11, a12, a13, h1, h2, h3⟩ := id h
  have R : ∀ c, gR w' c x 0 = gR w c x 0 := fun c => hf.2.2.2 _ _ _ (nx x (by omega))
  obtain ⟨i, hi, ei⟩ := h2 j hj
  refine ⟨⟨by rw [hf.1]; exact a1, by rw [R]; exact a2, by rw [R]; exact a3, by rw [hf.1]; exact a4, by rw [hf.2.1]; exact a5, by rw [R]; exact a6, a7.fr hf (nx _ (by omega)) (nx _ (by omega)), by rw [R]; exact a8, by rw [hf.1]; exact a9, by rw [hf.2.1]; exact a10, by rw [R]; exact a11, by rw [hf.1]; exact a12, by rw [hf.2.1]; exact a13, fun k hk => ?_, fun k hk => by rw [eo]; exact h2 k hk, fun k l hk hl => by rw [eo, eo]; exact h3 k l hk hl⟩, eo⟩
  by_cases c : k = i
  · rw [c, ← ei]
    exact hs
  · refine (h1 k hk).fr hf (fun q q1 q2 z => ?_)
    obtain ⟨z1, z2⟩ := z
    rw [ei] at z1 z2
    unfold bs at z1 z2 q1 q2
    split at z1 <;> split at z2 <;> split at q1 <;> split at q2 <;> omega
/-- a change of numbers that are no letters -/
theorem CI.num {w w' : FW} {x : Nat} (h : CI w x) (k : w'.1 = w.1) (l : w'.2.1 = w.2.1) (r : ∀ c a i, gR w' c a i = gR w c a i) (g : ∀ a i, ¬ (a = x + 142 ∨ a = x + 143) → gI w' 600 a i = gI w 600 a i) : CI w' x ∧ ∀ k, OFF w' x k = OFF w x k := by
  have eo : ∀ k, OFF w' x k = OFF w x k := fun k => by
    unfold OFF
    rw [r, r, r]
  obtain ⟨a1, a2, a3, a4, a5, a6, a7, a8, a9, a10, a11, a12, a13, h1, h2, h3⟩ := id h
  have hW : ∀ d, d + 1 ≠ x + 142 → d + 1 ≠ x + 143 → WS w d → WS w' d := fun d n1 n2 hd => ⟨by rw [k]; exact hd.1, by rw [k]; exact hd.2.1, by rw [l]; exact hd.2.2.1, by rw [r]; exact hd.2.2.2.1, fun j hj => by rw [g _ _ (by omega)]; exact hd.2.2.2.2 j hj⟩
  refine ⟨⟨by rw [k]; exact a1, by rw [r]; exact a2, by rw [r]; exact a3, by rw [k]; exact a4, by rw [l]; exact a5, by rw [r]; exact a6, hW _ (by omega) (by omega) a7, by rw [r]; exact a8, by rw [k]; exact a9, by rw [l]; exact a10, by rw [r]; exact a11, by rw [k]; exact a12, by rw [l]; exact a13, fun i hi => ?_, fun k hk => by rw [eo]; exact h2 k hk, fun k l hk hl => by rw [eo, eo]; exact h3 k l hk hl⟩, eo⟩
  have hb := bs_r x i hi
  refine (h1 i hi).again k l (fun c i => r c _ i) (fun c i => r c _ i) (hW _ (by omega) (by omega) (h1 i hi).2.2.2.2.2.2.2.2.2.2.2.1) (fun j hj => ?_)
  obtain ⟨s1, s2, s3, s4, s5, s6, s7⟩ := (h1 i hi).2.2.2.2.2.2.2.2.2.2.2.2.1 j hj
  exact ⟨by rw [k]; exact s1, by rw [k]; exact s2, by rw [k]; exact s3, by rw [r]; exact s4, by rw [r]; exact s5, by rw [r]; exact s6, hW _ (by omega) (by omega) s7⟩
/-- the offices change their places -/
theorem CI.perm {w w' : FW} {x : Nat} (h : CI w x) (π : Nat → Nat) (k : w'.1 = w.1) (l : w'.2.1 = w.2.1) (r : ∀ c a i, ¬ (c = 401 ∧ a = x) → ¬ (c = 603 ∧ a = x + 139) → gR w' c a i = gR w c a i) (g : ∀ a i, gI w' 600 a i = gI w 600 a i) (hπ : ∀ j, j < 11 → π j < 11) (hi : ∀ j m, j < 11 → m < 11 → π j = π m → j = m) (ho : ∀ j, j < 11 → OFF w' x j = OFF w x (π j)) : CI w' x := by
  obtain ⟨a1, a2, a3, a4, a5, a6, a7, a8, a9, a10, a11, a12, a13, h1, h2, h3⟩ := id h
  have R : ∀ c, ¬ c = 401 → ¬ c = 603 → ∀ a i, gR w' c a i = gR w c a i := fun c c1 c2 a i => r c a i (fun z => c1 z.1) (fun z => c2 z.1)
  have hW : ∀ d, WS w d → WS w' d := fun d hd => ⟨by rw [k]; exact hd.1, by rw [k]; exact hd.2.1, by rw [l]; exact hd.2.2.1, by rw [R 300 (by omega) (by omega)]; exact hd.2.2.2.1, fun j hj => by rw [g]; exact hd.2.2.2.2 j hj⟩
  refine ⟨by rw [k]; exact a1, by rw [R 402 (by omega) (by omega)]; exact a2, by rw [R 404 (by omega) (by omega)]; exact a3, by rw [k]; exact a4, by rw [l]; exact a5, by rw [R 406 (by omega) (by omega)]; exact a6, hW _ a7, by rw [R 407 (by omega) (by omega)]; exact a8, by rw [k]; exact a9, by rw [l]; exact a10, by rw [R 409 (by omega) (by omega)]; exact a11, by rw [k]; exact a12, by rw [l]; exact a13, fun i hi => ?_, fun j hj => by rw [ho j hj]; exact h2 _ (hπ j hj), fun j m hj hm e => hi j m hj hm (h3 _ _ (hπ j hj) (hπ m hm) (by rw [← ho j hj, ← ho m hm]; exact e))⟩
  have hb := bs_r x i hi
  refine (h1 i hi).again k l (fun c i => r c _ i (by omega) (by omega)) (fun c i => r c _ i (by omega) (by omega)) (hW _ (h1 i hi).2.2.2.2.2.2.2.2.2.2.2.1) (fun j hj => ?_)
  obtain ⟨s1, s2, s3, s4, s5, s6, s7⟩ := (h1 i hi).2.2.2.2.2.2.2.2.2.2.2.2.1 j hj
  exact ⟨by rw [k]; exact s1, by rw [k]; exact s2, by rw [k]; exact s3, by rw [R 200 (by omega) (by omega)]; exact s4, by rw [R 206 (by omega) (by omega)]; exact s5, by rw [R 207 (by omega) (by omega)]; exact s6, hW _ s7⟩
/-- an office is what it is through its first 177 entries -/
theorem OR.cg {w : FW} {o : Nat} {A A' : Nat → Int32} (h : OR w o A) (hA : WA A) (e : ∀ k, k < 177 → A' k = A k) : OR w o A' := by
  obtain ⟨hn, h8, hT⟩ := hA.n
  have h6 := hA.d.2
  obtain ⟨a1, a2, a3, a4, a5, a6, am, ap, ad, at9⟩ := h
  have eN : aN A' = aN A := by unfold aN; rw [e 0 (by omega)]
  refine ⟨by rw [e 0 (by omega)]; exact a1, by rw [e 1 (by omega)]; exact a2, by rw [e 2 (by omega)]; exact a3, by rw [e 3 (by omega)]; exact a4, by rw [e 4 (by omega)]; exact a5, by rw [e 5 (by omega)]; exact a6, fun p hp => by rw [e (7 + p) (by omega)]; exact am p hp, fun p hp => by rw [shut_congr (e 6 (by omega))]; exact ap p hp, ?_, fun t ht => ?_⟩
  · rw [e 10 (by omega)]
    exact ad.to (fun k hk => (e (11 + k) (by omega)).symm)
  · rw [eN] at ht
    exact (at9 t ht).to (fun k hk => e _ (by omega)) (hT t ht).len.2
theorem WA.cg {A A' : Nat → Int32} (hA : WA A) (e : ∀ k, k < 177 → A' k = A k) : WA A' := by
  obtain ⟨⟨n, a1, a2, a3⟩, ⟨m, m1, m2, m3, m4⟩, hm, ⟨b, b1, b2⟩, ⟨d, d1, d2⟩⟩ := hA
  exact ⟨⟨n, a1, (e 0 (by omega)).trans a2, fun u hu => (a3 u hu).to (fun k hk => e _ (by omega))⟩, ⟨m, m1, (e 10 (by omega)).trans m2, fun k hk => by rw [e (11 + k) (by omega)]; exact m3 k hk, fun k k1 k2 => (e (11 + k) (by omega)).trans (m4 k k1 k2)⟩, fun p hp => by rw [e (7 + p) (by omega)]; exact hm p hp, ⟨b, b1, (e 6 (by omega)).trans b2⟩, ⟨d, d1, (e 1 (by omega)).trans d2⟩⟩
/-- what is pushed on the past -/
def rP (w : FW) (x k : Nat) : FW := (w.1, w.2.1, w.2.2.1, fun c' a' i' => if c' = 603 ∧ a' = x + 139 ∧ i' < k then w.2.2.2 603 (x + 139) (i' + 1) else w.2.2.2 c' a' i')
theorem rP_0 (w : FW) (x : Nat) : rP w x 0 = w := by
  obtain ⟨k, l, g, r⟩ := w
  unfold rP
  congr 3
  funext c' a' i'
  rw [if_neg (by omega)]
theorem rP_s (w : FW) (x k : Nat) : sR (rP w x k) 603 (x + 139) k (gR w 603 (x + 139) (k + 1)) = rP w x (k + 1) := by
  unfold sR rP
  congr 3
  funext c' a' i'
  show (if c' = 603 ∧ a' = x + 139 ∧ i' = k then gR w 603 (x + 139) (k + 1) else if c' = 603 ∧ a' = x + 139 ∧ i' < k then w.2.2.2 603 (x + 139) (i' + 1) else w.2.2.2 c' a' i') = if c' = 603 ∧ a' = x + 139 ∧ i' < k + 1 then w.2.2.2 603 (x + 139) (i' + 1) else w.2.2.2 c' a' i'
  by_cases h1 : c' = 603 ∧ a' = x + 139 ∧ i' = k
  · rw [if_pos h1, if_pos ⟨h1.1, h1.2.1, by omega⟩, h1.2.2]
    rfl
  · rw [if_neg h1]
    by_cases h2 : c' = 603 ∧ a' = x + 139 ∧ i' < k
    · rw [if_pos h2, if_pos ⟨h2.1, h2.2.1, by omega⟩]
    · rw [if_neg h2, if_neg (by omega)]
theorem gR_rP (w : FW) (x k c' a' i' : Nat) : gR (rP w x k) c' a' i' = if c' = 603 ∧ a' = x + 139 ∧ i' < k then gR w 603 (x + 139) (i' + 1) else gR w c' a' i' := rfl
theorem gI_rP (w : FW) (x k c' a' i' : Nat) : gI (rP w x k) c' a' i' = gI w c' a' i' := rfl
/-- the place from which the j-th office comes when the spare one is pushed on a past of n -/
def pI (n j : Nat) : Nat := if n < 8 then (if j = 1 then 3 + n else if j = 3 + n then 1 else j) else (if j = 1 then 3 else if j < 3 then j else if j = 10 then 1 else j + 1)
theorem c_remember {w : FW} {x n : Nat} (h : CI w x) (hn : gI w 405 x 0 = nI n) (h8 : n ≤ 8) : ∃ w', F_X4_remember x w = some w' ∧ w'.1 = w.1 ∧ w'.2.1 = w.2.1 ∧ (∀ c a i, ¬ (c = 401 ∧ a = x) → ¬ (c = 603 ∧ a = x + 139) → gR w' c a i = gR w c a i) ∧ (∀ c a i, ¬ (c = 405 ∧ a = x) → gI w' c a i = gI w c a i) ∧ gI w' 405 x 0 = nI (if n = 8 then 8 else n + 1) ∧ ∀ j, j < 11 → OFF w' x j = OFF w x (pI n j) := by
  obtain ⟨a1, a2, a3, a4, a5, a6, a7, a8, a9, a10, a11, a12, a13, h1, h2, h3⟩ := id h
  have kp : ∀ i, i < 8 → w.1 (gR w 603 (x + 139) i) = 2 := fun i hi => (h.off (j := 3 + i) (by omega)).1.1 |> fun z => by
    have e : OFF w x (3 + i) = gR w 603 (x + 139) i := by
      unfold OFF
      rw [if_neg (by omega), if_neg (by omega), if_neg (by omega), show 3 + i - 3 = i by omega]
    rw [e] at z
    exact z
  have ks : w.1 (gR w 401 x 0) = 2 := (h.off (j := 1) (by omega)).1.1
  unfold F_X4_remember
  rw [fg_t a1, hn]
  by_cases c : n < 8
  · rw [if_pos (show nI n < (8 : Int32) from nI_lt (b := 8) (by omega) (by decide)), Option.bind_some, a3, fg_t a4, hn, fg_t (by rw [a5]; exact nI_in (by omega) (by omega)), fg_t ks, nI_clamp (by omega)]
    refine ⟨_, rfl, rfl, rfl, fun c a i n1 n2 => ?_, fun c a i n1 => ?_, ?_, fun j hj => ?_⟩
    · rw [gR_sI, gR_sR, if_neg (fun z => n1 ⟨z.1, z.2.1⟩), gR_sR, if_neg (fun z => n2 ⟨z.1, z.2.1⟩)]
    · rw [gI_sI, if_neg (fun z => n1 ⟨z.1, z.2.1⟩), gI_sR, gI_sR]
    · rw [gI_s, gI_sR, gI_sR, hn, nI_1, if_neg (by omega)]
    · by_cases c1 : j = 1
      · subst c1
        rw [show pI n 1 = 3 + n by unfold pI; rw [if_pos c, if_pos rfl], OFF_1, OFF_p _ _ (by omega), gR_sI, gR_s, show 3 + n - 3 = n by omega]
      · by_cases c2 : j = 3 + n
        · rw [show pI n j = 1 by unfold pI; rw [if_pos c, if_neg c1, if_pos c2], OFF_1, OFF_p _ _ (by omega), gR_sI, gR_sR, if_neg (by omega), gR_sR, if_pos ⟨rfl, rfl, by omega⟩]
        · rw [show pI n j = j by unfold pI; rw [if_pos c, if_neg c1, if_neg c2]]
          by_cases c3 : j = 0
          · subst c3
            rw [OFF_0, OFF_0, gR_sI, gR_sR, if_neg (by omega), gR_sR, if_neg (by omega)]
          · by_cases c4 : j = 2
            · subst c4
              rfl
            · rw [OFF_p _ _ (by omega), OFF_p _ _ (by omega), gR_sI, gR_sR, if_neg (by omega), gR_sR, if_neg (by omega)]
  · have c8 : n = 8 := by omega
    subst c8
    have q8 : Int32.toNatClampNeg 0 = 0 := rfl
    have q7 : Int32.toNatClampNeg 7 = 7 := rfl
    rw [if_neg (show ¬ nI 8 < (8 : Int32) by decide), a3, fg_t a4, fg_t (by rw [a5]; decide), q8]
    have hl : fLoop (σ := Int32 × FW) (ρ := FW) (fun s12 => (if 8 ≤ s12.1 then some (.inr s12.2) else fg (w.1 (gR s12.2 404 x 0) = 13) inferInstance (fg (¬ (s12.1 < 0 ∨ w.2.1 (gR s12.2 404 x 0) ≤ Int32.toNatClampNeg s12.1)) inferInstance (fg (w.1 (gR s12.2 603 (gR s12.2 404 x 0) (Int32.toNatClampNeg s12.1)) = 2) inferInstance (fg (¬ ((s12.1 - 1) < 0 ∨ w.2.1 (gR s12.2 404 x 0) ≤ Int32.toNatClampNeg (s12.1 - 1))) inferInstance (some (.inl ((s12.1 + 1), (sR s12.2 603 (gR s12.2 404 x 0) (Int32.toNatClampNeg (s12.1 - 1)) (gR s12.2 603 (gR s12.2 404 x 0) (Int32.toNatClampNeg s12.1))))))))))) (1, w) = some (rP w x 7) := by
      have := fLoop_for (σ := Int32 × FW) (ρ := FW) (f := (fun s12 => (if 8 ≤ s12.1 then some (.inr s12.2) else fg (w.1 (gR s12.2 404 x 0) = 13) inferInstance (fg (¬ (s12.1 < 0 ∨ w.2.1 (gR s12.2 404 x 0) ≤ Int32.toNatClampNeg s12.1)) inferInstance (fg (w.1 (gR s12.2 603 (gR s12.2 404 x 0) (Int32.toNatClampNeg s12.1)) = 2) inferInstance (fg (¬ ((s12.1 - 1) < 0 ∨ w.2.1 (gR s12.2 404 x 0) ≤ Int32.toNatClampNeg (s12.1 - 1))) inferInstance (some (.inl ((s12.1 + 1), (sR s12.2 603 (gR s12.2 404 x 0) (Int32.toNatClampNeg (s12.1 - 1)) (gR s12.2 603 (gR s12.2 404 x 0) (Int32.toNatClampNeg s12.1)))))))))))) (fun k => (nI (k + 1), rP w x k)) 7 (r := rP w x 7) (fun k hk => ?_) ?_
      · have e0 : (nI (0 + 1), rP w x 0) = ((1 : Int32), w) := by rw [rP_0]; rfl
        exact e0 ▸ this
      · have c1 : ¬ (8 : Int32) ≤ nI (k + 1) := nI_ge (b := 8) (by omega) (by decide)
        have e1 := nI_clamp (n := k + 1) (by omega)
        have e2 : nI (k + 1) - 1 = nI k := nI_pred k
        have e3 := nI_clamp (n := k) (by omega)
        show (if (8 : Int32) ≤ nI (k + 1) then _ else _) = _
        rw [if_neg c1]
        have q0 : gR (rP w x k) 404 x 0 = x + 139 := by rw [gR_rP, if_neg (by omega)]; exact a3
        have q1 : gR (rP w x k) 603 (x + 139) (k + 1) = gR w 603 (x + 139) (k + 1) := by rw [gR_rP, if_neg (by omega)]
        show fg (w.1 (gR (rP w x k) 404 x 0) = 13) _ _ = _
        refine (fg_t (by rw [q0]; exact a4)).trans ?_
        refine (fg_t (by rw [q0, a5]; exact nI_in (by omega) (by omega))).trans ?_
        refine (fg_t (by rw [q0, e1, q1]; exact kp (k + 1) (by omega))).trans ?_
        refine (fg_t (by rw [q0, a5, e2]; exact nI_in (by omega) (by omega))).trans ?_
        rw [q0, e1, e2, e3, q1, rP_s, nI_1]
      · show (if (8 : Int32) ≤ nI 8 then _ else _) = _
        rw [if_pos (by decide)]
    rw [hl, Option.bind_some]
    have q0 : gR (rP w x 7) 404 x 0 = x + 139 := by rw [gR_rP, if_neg (by omega)]; exact a3
    rw [q0, fg_t a4, fg_t (kp 0 (by omega)), q7, fg_t (by rw [a5]; decide), Option.bind_some, gI_sR, gI_rP, hn, show nI 8 - 1 = nI 7 from rfl]
    have r404 : gR (sI (sR (rP w x 7) 603 (x + 139) 7 (gR w 603 (x + 139) 0)) 405 x 0 (nI 7)) 404 x 0 = x + 139 := by rw [gR_sI, gR_sR, if_neg (by omega)]; exact q0
    have r401 : gR (sI (sR (rP w x 7) 603 (x + 139) 7 (gR w 603 (x + 139) 0)) 405 x 0 (nI 7)) 401 x 0 = gR w 401 x 0 := by rw [gR_sI, gR_sR, if_neg (by omega), gR_rP, if_neg (by omega)]
    have r603 : gR (sI (sR (rP w x 7) 603 (x + 139) 7 (gR w 603 (x + 139) 0)) 405 x 0 (nI 7)) 603 (x + 139) 7 = gR w 603 (x + 139) 0 := by rw [gR_sI, gR_s]
    have i405 : gI (sI (sR (rP w x 7) 603 (x + 139) 7 (gR w 603 (x + 139) 0)) 405 x 0 (nI 7)) 405 x 0 = nI 7 := gI_s _ _ _ _ _
    rw [r404, fg_t a4, i405, fg_t (by rw [a5]; decide), r401, fg_t ks, show (nI 7).toNatClampNeg = 7 from rfl, r603]
    refine ⟨_, rfl, rfl, rfl, fun c a i n1 n2 => ?_, fun c a i n1 => ?_, ?_, fun j hj => ?_⟩
    · rw [gR_sI, gR_sR, if_neg (fun z => n1 ⟨z.1, z.2.1⟩), gR_sR, if_neg (fun z => n2 ⟨z.1, z.2.1⟩), gR_sI, gR_sR, if_neg (fun z => n2 ⟨z.1, z.2.1⟩), gR_rP, if_neg (fun z => n2 ⟨z.1, z.2.1⟩)]
    · rw [gI_sI, if_neg (fun z => n1 ⟨z.1, z.2.1⟩), gI_sR, gI_sR, gI_sI, if_neg (fun z => n1 ⟨z.1, z.2.1⟩), gI_sR, gI_rP]
    · rw [gI_s, gI_sR, gI_sR, gI_s]
      rfl
    · by_cases c0 : j = 0
      · subst c0
        rw [show pI 8 0 = 0 from rfl, OFF_0, OFF_0, gR_sI, gR_sR, if_neg (by omega), gR_sR, if_neg (by omega), gR_sI, gR_sR, if_neg (by omega), gR_rP, if_neg (by omega)]
      · by_cases c1 : j = 1
        · subst c1
          rw [show pI 8 1 = 3 from rfl, OFF_1, OFF_p _ _ (by omega), gR_sI, gR_s]
        · by_cases c2 : j = 2
          · subst c2
            rfl
          · by_cases c3 : j = 10
            · subst c3
              rw [show pI 8 10 = 1 from rfl, OFF_1, OFF_p _ _ (by omega), gR_sI, gR_sR, if_neg (by omega), gR_sR, if_pos ⟨rfl, rfl, rfl⟩]
            · rw [show pI 8 j = j + 1 by unfold pI; rw [if_neg (by omega), if_neg c1, if_neg (by omega), if_neg c3], OFF_p _ _ (by omega), OFF_p _ _ (by omega), gR_sI, gR_sR, if_neg (by omega), gR_sR, if_neg (by omega), gR_sI, gR_sR, if_neg (by omega), gR_rP, if_pos ⟨rfl, rfl, by omega⟩, show j - 3 + 1 = j + 1 - 3 by omega]
