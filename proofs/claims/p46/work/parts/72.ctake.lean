/-! The class: copies -/
theorem fLoop_inv {σ ρ : Type} {f : σ → Option (σ ⊕ ρ)} {Q : ρ → Prop} (I : Nat → σ → Prop) (n : Nat) {s : σ} (h0 : I 0 s) (hgo : ∀ k s, k < n → I k s → ∃ s', f s = some (.inl s') ∧ I (k + 1) s') (hend : ∀ s, I n s → ∃ r, f s = some (.inr r) ∧ Q r) : ∃ r, fLoop f s = some r ∧ Q r := by
  have h : ∀ j k s, k + j = n → I k s → ∃ r, fLoop f s = some r ∧ Q r := by
    intro j
    induction j with
    | zero =>
      intro k s hk hI
      have : k = n := by omega
      subst this
      obtain ⟨r, e, q⟩ := hend s hI
      exact ⟨r, fLoop_out e, q⟩
    | succ j ih =>
      intro k s hk hI
      obtain ⟨s', e, hI'⟩ := hgo k s (by omega) hI
      rw [fLoop_go e]
      exact ih (k + 1) s' (by omega) hI'
  exact h n 0 s (by omega) h0
/-- the first n of row a of component c are f's -/
def rW (w : FW) (c a n : Nat) (f : Nat → Int32) : FW := (w.1, w.2.1, fun c' a' i' => if c' = c ∧ a' = a ∧ i' < n then f i' else w.2.2.1 c' a' i', w.2.2.2)
theorem rW_0 (w : FW) (c a : Nat) (f : Nat → Int32) : rW w c a 0 f = w := by
  obtain ⟨k, l, g, r⟩ := w
  unfold rW
  congr 3
  funext c' a' i'
  simp
theorem rW_s (w : FW) (c a n : Nat) (f : Nat → Int32) : sI (rW w c a n f) c a n (f n) = rW w c a (n + 1) f := by
  unfold sI rW
  congr 3
  funext c' a' i'
  by_cases h : c' = c ∧ a' = a
  · obtain ⟨rfl, rfl⟩ := h
    by_cases h2 : i' = n
    · subst h2
      simp
    · by_cases h3 : i' < n
      · simp [h2, h3, show i' < n + 1 by omega]
      · simp [h2, h3, show ¬ i' < n + 1 by omega]
  · have h4 : ¬ (c' = c ∧ a' = a ∧ i' = n) := fun z => h ⟨z.1, z.2.1⟩
    have h5 : ¬ (c' = c ∧ a' = a ∧ i' < n) := fun z => h ⟨z.1, z.2.1⟩
    have h6 : ¬ (c' = c ∧ a' = a ∧ i' < n + 1) := fun z => h ⟨z.1, z.2.1⟩
    rw [if_neg h4, if_neg h6]
    exact if_neg h5
theorem gI_rW (w : FW) (c a n : Nat) (f : Nat → Int32) (c' a' i' : Nat) : gI (rW w c a n f) c' a' i' = if c' = c ∧ a' = a ∧ i' < n then f i' else gI w c' a' i' := rfl
theorem gR_rW (w : FW) (c a n : Nat) (f : Nat → Int32) (c' a' i' : Nat) : gR (rW w c a n f) c' a' i' = gR w c' a' i' := rfl
theorem rW_k (w : FW) (c a n : Nat) (f : Nat → Int32) : (rW w c a n f).1 = w.1 := rfl
theorem rW_l (w : FW) (c a n : Nat) (f : Nat → Int32) : (rW w c a n f).2.1 = w.2.1 := rfl
theorem Fr.rW (w : FW) (c a n : Nat) (f : Nat → Int32) {P : Nat → Prop} (h : P a) : Fr w (rW w c a n f) P :=
  ⟨rfl, rfl, fun c' a' i' hn => if_neg (show ¬ (c' = c ∧ a' = a ∧ i' < n) from fun z => hn (z.2.1 ▸ h)), fun _ _ _ _ => rfl⟩
theorem bl_in {lo n q : Nat} (h1 : lo ≤ q) (h2 : q < lo + n) : bl lo n q := ⟨h1, h2⟩
/-- one word becomes another -/
theorem c_wtake {w : FW} {d d' : Nat} (hs : WS w d) (hs' : WS w d') (hd : d + 2 ≤ d' ∨ d' + 2 ≤ d) : ∃ w', F_X3_take d d' w = some w' ∧ Fr w w' (bl d 2) ∧ WS w' d ∧ ∀ n f, n ≤ 6 → WR w d' n f → WR w' d n f := by
  obtain ⟨y1, y2, y3, y4, y5⟩ := id hs
  obtain ⟨v1, v2, v3, v4, v5⟩ := id hs'
  refine ⟨sI (rW w 600 (d + 1) 6 (fun k => gI w 600 (d' + 1) k)) 301 d 0 (gI w 301 d' 0), ?_, ?_, ?_, ?_⟩
  · unfold F_X3_take
    refine fLoop_bind (r := rW w 600 (d + 1) 6 (fun k => gI w 600 (d' + 1) k)) (fun k => (nI k, rW w 600 (d + 1) k (fun k => gI w 600 (d' + 1) k))) 6 ?_ (fun k hk => ?_) ?_ ?_
    · rw [rW_0]
      rfl
    · have c1 : ¬ (6 : Int32) ≤ nI k := nI_ge (b := 6) hk (by decide)
      have e1 := nI_clamp (n := k) (by omega)
      have e2 : gI (rW w 600 (d + 1) k (fun k => gI w 600 (d' + 1) k)) 600 (d' + 1) k = gI w 600 (d' + 1) k := by
        rw [gI_rW, if_neg (fun z => by have := z.2.1; omega)]
      have e3 := v5 k hk
      show (if (6 : Int32) ≤ nI k then _ else _) = _
      rw [if_neg c1]
      refine (fg_t y1).trans ?_
      refine (fg_t v1).trans ?_
      refine (fg_t (by rw [gR_rW, v4]; exact v2)).trans ?_
      refine (fg_t (by rw [gR_rW, v4, v3]; exact nI_in hk (by decide))).trans ?_
      refine (fg_t (by rw [gR_rW, y4]; exact y2)).trans ?_
      refine (fg_t (by rw [gR_rW, y4, y3]; exact nI_in hk (by decide))).trans ?_
      refine (fg_t (by rw [gR_rW, v4, e1, e2]; exact e3)).trans ?_
      rw [gR_rW, gR_rW, v4, y4, e1, e2]
      rw [rW_s w 600 (d + 1) k (fun k => gI w 600 (d' + 1) k), nI_1]
    · have c1 : (6 : Int32) ≤ nI 6 := by decide
      rw [if_pos c1]
    · refine (fg_t v1).trans ?_
      refine (fg_t y1).trans ?_
      rw [gI_rW, if_neg (fun z => absurd z.1 (by decide))]
  · exact (Fr.rW w 600 (d + 1) 6 _ (bl_in (by omega) (by omega))).tr (Fr.sI _ 301 d 0 _ (bl_in (by omega) (by omega)))
  · refine ⟨y1, y2, y3, y4, fun k hk => ?_⟩
    rw [gI_sI, if_neg (fun z => absurd z.1 (by decide)), gI_rW, if_pos ⟨rfl, rfl, hk⟩]
    exact v5 k hk
  · intro n f h6 hr
    refine ⟨by rw [gI_s]; exact hr.1, fun k hk => ?_⟩
    rw [gI_sI, if_neg (fun z => absurd z.1 (by decide)), gI_rW, if_pos ⟨rfl, rfl, by omega⟩]
    exact hr.2 k hk
/-- one half becomes another -/
theorem c_htake {w : FW} {η η' t h : Nat} {A : Nat → Int32} (hη : w.1 η = 1) (hη' : w.1 η' = 1) (hr : HR w η' A t h) (hw : WTk A t) (hh : h < 2) (hne : ¬ η' = η) : ∃ w', F_X0_take η η' w = some w' ∧ Fr w w' (bl η 1) ∧ HR w' η A t h := by
  obtain ⟨r0, r1, r2, r3, r4⟩ := hr
  have hW := hw.2.2.2.2.2.2.1 h hh
  refine ⟨sI (sI (sI (sI (sI w 0 η 0 (pun A t h)) 1 η 0 (aH A t h 0)) 2 η 0 (aH A t h 1)) 3 η 0 (aH A t h 2)) 4 η 0 (aH A t h 3), ?_, ?_, ?_⟩
  · unfold F_X0_take
    have e1 : gI (sI w 0 η 0 (pun A t h)) 1 η' 0 = aH A t h 0 := by rw [gI_sI, if_neg (fun z => hne z.2.1)]; exact r1
    have e2 : gI (sI (sI w 0 η 0 (pun A t h)) 1 η 0 (aH A t h 0)) 2 η' 0 = aH A t h 1 := by rw [gI_sI, if_neg (fun z => hne z.2.1), gI_sI, if_neg (fun z => hne z.2.1)]; exact r2
    have e3 : gI (sI (sI (sI w 0 η 0 (pun A t h)) 1 η 0 (aH A t h 0)) 2 η 0 (aH A t h 1)) 3 η' 0 = aH A t h 2 := by rw [gI_sI, if_neg (fun z => hne z.2.1), gI_sI, if_neg (fun z => hne z.2.1), gI_sI, if_neg (fun z => hne z.2.1)]; exact r3
    have e4 : gI (sI (sI (sI (sI w 0 η 0 (pun A t h)) 1 η 0 (aH A t h 0)) 2 η 0 (aH A t h 1)) 3 η 0 (aH A t h 2)) 4 η' 0 = aH A t h 3 := by rw [gI_sI, if_neg (fun z => hne z.2.1), gI_sI, if_neg (fun z => hne z.2.1), gI_sI, if_neg (fun z => hne z.2.1), gI_sI, if_neg (fun z => hne z.2.1)]; exact r4
    rw [fg_t hη', fg_t hη, r0, e1, e2, e3, e4, fg_t (pun_01 A t h), fg_t hW.2.2.1, fg_t hW.2.2.2]
  · have hb : bl η 1 η := bl_in (by omega) (by omega)
    exact ((((Fr.sI w 0 η 0 _ hb).tr (Fr.sI _ 1 η 0 _ hb)).tr (Fr.sI _ 2 η 0 _ hb)).tr (Fr.sI _ 3 η 0 _ hb)).tr (Fr.sI _ 4 η 0 _ hb)
  · refine ⟨?_, ?_, ?_, ?_, ?_⟩ <;> simp [gI_sI]
theorem c_hstart {w : FW} {η t h : Nat} {A : Nat → Int32} (hη : w.1 η = 1) (a0 : aH A t h 0 = -1) (a1 : aH A t h 1 = 0) (a2 : aH A t h 2 = 0) (a3 : aH A t h 3 = 0) : ∃ w', F_X0_start η w = some w' ∧ Fr w w' (bl η 1) ∧ HR w' η A t h := by
  refine ⟨_, fg_t hη, ?_, ?_⟩
  · have hb : bl η 1 η := bl_in (by omega) (by omega)
    exact ((((Fr.sI w 0 η 0 _ hb).tr (Fr.sI _ 1 η 0 _ hb)).tr (Fr.sI _ 2 η 0 _ hb)).tr (Fr.sI _ 3 η 0 _ hb)).tr (Fr.sI _ 4 η 0 _ hb)
  · have hp : pun A t h = 0 := pun_0.mpr a0
    unfold HR
    rw [hp, a0, a1, a2, a3]
    refine ⟨?_, ?_, ?_, ?_, ?_⟩ <;> simp [gI_sI]
/-- the five numbers of a ticket -/
def t5 (w : FW) (τ : Nat) (a b c d e : Int32) : FW := sI (sI (sI (sI (sI w 201 τ 0 a) 202 τ 0 b) 203 τ 0 c) 204 τ 0 d) 205 τ 0 e
theorem t5_fr (w : FW) (τ : Nat) (a b c d e : Int32) {P : Nat → Prop} (hb : P τ) : Fr w (t5 w τ a b c d e) P :=
  ((((Fr.sI w 201 τ 0 _ hb).tr (Fr.sI _ 202 τ 0 _ hb)).tr (Fr.sI _ 203 τ 0 _ hb)).tr (Fr.sI _ 204 τ 0 _ hb)).tr (Fr.sI _ 205 τ 0 _ hb)
theorem t5_R (w : FW) (τ : Nat) (a b c d e : Int32) (c' a' i' : Nat) : gR (t5 w τ a b c d e) c' a' i' = gR w c' a' i' := rfl
theorem t5_g (w : FW) (τ : Nat) (a b c d e : Int32) : gI (t5 w τ a b c d e) 201 τ 0 = a ∧ gI (t5 w τ a b c d e) 202 τ 0 = b ∧ gI (t5 w τ a b c d e) 203 τ 0 = c ∧ gI (t5 w τ a b c d e) 204 τ 0 = d ∧ gI (t5 w τ a b c d e) 205 τ 0 = e := by
  unfold t5
  refine ⟨?_, ?_, ?_, ?_, ?_⟩ <;> simp [gI_sI]
theorem c_ttake {w : FW} {τ τ' t : Nat} {A : Nat → Int32} (hs : TS w τ) (hs' : TS w τ') (hr : TR w τ' A t) (hw : WTk A t) (hd : τ + 5 ≤ τ' ∨ τ' + 5 ≤ τ) : ∃ w', F_X2_take τ τ' w = some w' ∧ Fr w w' (bl τ 5) ∧ TS w' τ ∧ TR w' τ A t := by
  obtain ⟨s1, s2, s3, s4, s5, s6, s7⟩ := id hs
  obtain ⟨v1, v2, v3, v4, v5, v6, v7⟩ := id hs'
  obtain ⟨p1, p2, p3, p4, p5, p6, p7, p8⟩ := id hr
  have h6 := hw.len.2
  obtain ⟨w1, e1, f1, g1, k1⟩ := c_wtake s7 v7 (by omega)
  have n' : ¬ bl (τ + 1) 2 τ' := fun z => by obtain ⟨z1, z2⟩ := z; omega
  have n'3 : ¬ bl (τ + 1) 2 (τ' + 3) := fun z => by obtain ⟨z1, z2⟩ := z; omega
  have n'4 : ¬ bl (τ + 1) 2 (τ' + 4) := fun z => by obtain ⟨z1, z2⟩ := z; omega
  have n0 : ¬ bl (τ + 1) 2 τ := fun z => by obtain ⟨z1, z2⟩ := z; omega
  have hne : ¬ τ' = τ := by omega
  have q (c : Nat) : gI w1 c τ' 0 = gI w c τ' 0 := f1.2.2.1 _ _ _ n'
  have qR (c : Nat) : gR w1 c τ' 0 = gR w c τ' 0 := f1.2.2.2 _ _ _ n'
  have q0 (c : Nat) : gR w1 c τ 0 = gR w c τ 0 := f1.2.2.2 _ _ _ n0
  have f2 : Fr w1 (t5 w1 τ (aT A t 7) (aT A t 8) (aT A t 9) (aT A t 10) (aT A t 11)) (bl τ 1) := t5_fr _ _ _ _ _ _ _ (bl_in (by omega) (by omega))
  have m1 : ∀ a, ¬ bl τ 1 a → ∀ c i, gI (t5 w1 τ (aT A t 7) (aT A t 8) (aT A t 9) (aT A t 10) (aT A t 11)) c a i = gI w1 c a i := fun a h c i => f2.2.2.1 c a i h
  have g7 := p7.fr f1 n'3
  have g8 := p8.fr f1 n'4
  have k2 : (t5 w1 τ (aT A t 7) (aT A t 8) (aT A t 9) (aT A t 10) (aT A t 11)).1 = w.1 := f2.1.trans f1.1
  obtain ⟨w3, e3, f3, g3⟩ := c_htake (η := τ + 3) (η' := τ' + 3) (by rw [k2]; exact s2) (by rw [k2]; exact v2) (g7.fr f2 (fun z => by obtain ⟨z1, z2⟩ := z; omega)) hw (by omega) (by omega)
  have b3 : ∀ c a i, ¬ bl (τ + 3) 1 a → gR w3 c a i = gR w1 c a i := fun c a i h => f3.2.2.2 c a i h
  have k3 : w3.1 = w.1 := f3.1.trans k2
  have g8' := (g8.fr f2 (fun z => by obtain ⟨z1, z2⟩ := z; omega)).fr f3 (fun z => by obtain ⟨z1, z2⟩ := z; omega)
  obtain ⟨w4, e4, f4, g4⟩ := c_htake (η := τ + 4) (η' := τ' + 4) (by rw [k3]; exact s3) (by rw [k3]; exact v3) g8' hw (by omega) (by omega)
  have hb3 : ¬ bl (τ + 3) 1 τ := fun z => by obtain ⟨z1, z2⟩ := z; omega
  have hb3' : ¬ bl (τ + 3) 1 τ' := fun z => by obtain ⟨z1, z2⟩ := z; omega
  refine ⟨w4, ?_, ?_, ?_, ?_⟩
  · unfold F_X2_take
    refine (fg_t s1).trans ?_
    refine (fg_t v1).trans ?_
    rw [s4, v4]
    refine (fg_t s7.1).trans ?_
    refine ob e1 ?_
    have x1 : gI w1 201 τ' 0 = aT A t 7 := (q 201).trans p2
    have x2 : gI (sI w1 201 τ 0 (aT A t 7)) 202 τ' 0 = aT A t 8 := by rw [gI_sI, if_neg (fun z => hne z.2.1)]; exact (q 202).trans p3
    have x3 : gI (sI (sI w1 201 τ 0 (aT A t 7)) 202 τ 0 (aT A t 8)) 203 τ' 0 = aT A t 9 := by rw [gI_sI, if_neg (fun z => hne z.2.1), gI_sI, if_neg (fun z => hne z.2.1)]; exact (q 203).trans p4
    have x4 : gI (sI (sI (sI w1 201 τ 0 (aT A t 7)) 202 τ 0 (aT A t 8)) 203 τ 0 (aT A t 9)) 204 τ' 0 = aT A t 10 := by rw [gI_sI, if_neg (fun z => hne z.2.1), gI_sI, if_neg (fun z => hne z.2.1), gI_sI, if_neg (fun z => hne z.2.1)]; exact (q 204).trans p5
    have x5 : gI (sI (sI (sI (sI w1 201 τ 0 (aT A t 7)) 202 τ 0 (aT A t 8)) 203 τ 0 (aT A t 9)) 204 τ 0 (aT A t 10)) 205 τ' 0 = aT A t 11 := by rw [gI_sI, if_neg (fun z => hne z.2.1), gI_sI, if_neg (fun z => hne z.2.1), gI_sI, if_neg (fun z => hne z.2.1), gI_sI, if_neg (fun z => hne z.2.1)]; exact (q 205).trans p6
    rw [x1, x2, x3, x4, x5]
    refine (fg_t hw.2.2.2.2.1).trans ?_
    rw [q0 206, s5]
    refine (fg_t s2).trans ?_
    have y1 : gR (t5 w1 τ (aT A t 7) (aT A t 8) (aT A t 9) (aT A t 10) (aT A t 11)) 206 τ 0 = τ + 3 := (q0 206).trans s5
    have y2 : gR (t5 w1 τ (aT A t 7) (aT A t 8) (aT A t 9) (aT A t 10) (aT A t 11)) 206 τ' 0 = τ' + 3 := (qR 206).trans v5
    have e3' : F_X0_take (gR (t5 w1 τ (aT A t 7) (aT A t 8) (aT A t 9) (aT A t 10) (aT A t 11)) 206 τ 0) (gR (t5 w1 τ (aT A t 7) (aT A t 8) (aT A t 9) (aT A t 10) (aT A t 11)) 206 τ' 0) (t5 w1 τ (aT A t 7) (aT A t 8) (aT A t 9) (aT A t 10) (aT A t 11)) = some w3 := by rw [y1, y2]; exact e3
    refine ob e3' ?_
    rw [b3 207 τ 0 hb3, b3 207 τ' 0 hb3', q0 207, qR 207, s6, v6]
    refine (fg_t s3).trans ?_
    exact ob e4 rfl
  · have M (lo n : Nat) (h1 : τ ≤ lo) (h2 : lo + n ≤ τ + 5) : ∀ a, bl lo n a → bl τ 5 a := fun a z => by obtain ⟨z1, z2⟩ := z; exact ⟨by omega, by omega⟩
    exact (((f1.mono (M _ _ (by omega) (by omega))).tr (f2.mono (M _ _ (by omega) (by omega)))).tr (f3.mono (M _ _ (by omega) (by omega)))).tr (f4.mono (M _ _ (by omega) (by omega)))
  · have R (c : Nat) : gR w4 c τ 0 = gR w c τ 0 := (f4.2.2.2 _ _ _ (fun z => by obtain ⟨z1, z2⟩ := z; omega)).trans ((b3 _ _ _ hb3).trans (q0 c))
    have k4 : w4.1 = w.1 := f4.1.trans k3
    refine ⟨by rw [k4]; exact s1, by rw [k4]; exact s2, by rw [k4]; exact s3, by rw [R]; exact s4, by rw [R]; exact s5, by rw [R]; exact s6, ?_⟩
    exact ((g1.fr f2 (fun z => by obtain ⟨z1, z2⟩ := z; omega) (fun z => by obtain ⟨z1, z2⟩ := z; omega)).fr f3 (fun z => by obtain ⟨z1, z2⟩ := z; omega) (fun z => by obtain ⟨z1, z2⟩ := z; omega)).fr f4 (fun z => by obtain ⟨z1, z2⟩ := z; omega) (fun z => by obtain ⟨z1, z2⟩ := z; omega)
  · have G (c : Nat) : gI w4 c τ 0 = gI (t5 w1 τ (aT A t 7) (aT A t 8) (aT A t 9) (aT A t 10) (aT A t 11)) c τ 0 := (f4.2.2.1 _ _ _ (fun z => by obtain ⟨z1, z2⟩ := z; omega)).trans (f3.2.2.1 _ _ _ hb3)
    obtain ⟨c1, c2, c3, c4, c5⟩ := t5_g w1 τ (aT A t 7) (aT A t 8) (aT A t 9) (aT A t 10) (aT A t 11)
    refine ⟨?_, (G _).trans c1, (G _).trans c2, (G _).trans c3, (G _).trans c4, (G _).trans c5, g3.fr f4 (fun z => by obtain ⟨z1, z2⟩ := z; omega), g4⟩
    exact (((k1 _ _ h6 p1).fr f2 (fun z => by obtain ⟨z1, z2⟩ := z; omega) (fun z => by obtain ⟨z1, z2⟩ := z; omega)).fr f3 (fun z => by obtain ⟨z1, z2⟩ := z; omega) (fun z => by obtain ⟨z1, z2⟩ := z; omega)).fr f4 (fun z => by obtain ⟨z1, z2⟩ := z; omega) (fun z => by obtain ⟨z1, z2⟩ := z; omega)
/-- a ticket is begun: its word is copied, the rest is new -/
theorem c_tstart {w : FW} {τ d t n : Nat} {f : Nat → Int32} {A : Nat → Int32} (hs : TS w τ) (hs' : WS w d) (hr : WR w d n f) (h6 : n ≤ 6) (hd : τ + 5 ≤ d ∨ d + 2 ≤ τ) (hn : aLen A t = n) (hf : ∀ k, k < n → f k = aL A t k) (a10 : aT A t 10 = 0) (a11 : aT A t 11 = -1) (hh : ∀ h, h < 2 → aH A t h 0 = -1 ∧ aH A t h 1 = 0 ∧ aH A t h 2 = 0 ∧ aH A t h 3 = 0) : ∃ w', F_X2_start τ d (aT A t 7) (aT A t 8) (aT A t 9) w = some w' ∧ Fr w w' (bl τ 5) ∧ TS w' τ ∧ TR w' τ A t := by
  obtain ⟨s1, s2, s3, s4, s5, s6, s7⟩ := id hs
  obtain ⟨w1, e1, f1, g1, k1⟩ := c_wtake s7 hs' (by omega)
  have n0 : ¬ bl (τ + 1) 2 τ := fun z => by obtain ⟨z1, z2⟩ := z; omega
  have q0 (c : Nat) : gR w1 c τ 0 = gR w c τ 0 := f1.2.2.2 _ _ _ n0
  have f2 : Fr w1 (t5 w1 τ (aT A t 7) (aT A t 8) (aT A t 9) 0 (-1)) (bl τ 1) := t5_fr _ _ _ _ _ _ _ (bl_in (by omega) (by omega))
  have k2 : (t5 w1 τ (aT A t 7) (aT A t 8) (aT A t 9) 0 (-1)).1 = w.1 := f2.1.trans f1.1
  obtain ⟨x0, x1, x2, x3⟩ := hh 0 (by omega)
  obtain ⟨y0, y1, y2, y3⟩ := hh 1 (by omega)
  obtain ⟨w3, e3, f3, g3⟩ := c_hstart (w := t5 w1 τ (aT A t 7) (aT A t 8) (aT A t 9) 0 (-1)) (η := τ + 3) (by rw [k2]; exact s2) x0 x1 x2 x3
  have k3 : w3.1 = w.1 := f3.1.trans k2
  obtain ⟨w4, e4, f4, g4⟩ := c_hstart (w := w3) (η := τ + 4) (by rw [k3]; exact s3) y0 y1 y2 y3
  have hb3 : ¬ bl (τ + 3) 1 τ := fun z => by obtain ⟨z1, z2⟩ := z; omega
  have b3 : ∀ c a i, ¬ bl (τ + 3) 1 a → gR w3 c a i = gR w1 c a i := fun c a i h => f3.2.2.2 c a i h
  refine ⟨w4, ?_, ?_, ?_, ?_⟩
  · unfold F_X2_start
    refine (fg_t s1).trans ?_
    rw [s4]
    refine (fg_t s7.1).trans ?_
    refine ob e1 ?_
    rw [q0 206, s5]
    refine (fg_t s2).trans ?_
    have e3' : F_X0_start (gR (t5 w1 τ (aT A t 7) (aT A t 8) (aT A t 9) 0 (-1)) 206 τ 0) (t5 w1 τ (aT A t 7) (aT A t 8) (aT A t 9) 0 (-1)) = some w3 := by rw [t5_R, q0 206, s5]; exact e3
    refine ob e3' ?_
    rw [b3 207 τ 0 hb3, q0 207, s6]
    refine (fg_t s3).trans ?_
    exact ob e4 rfl
  · have M (lo n : Nat) (h1 : τ ≤ lo) (h2 : lo + n ≤ τ + 5) : ∀ a, bl lo n a → bl τ 5 a := fun a z => by obtain ⟨z1, z2⟩ := z; exact ⟨by omega, by omega⟩
    exact (((f1.mono (M _ _ (by omega) (by omega))).tr (f2.mono (M _ _ (by omega) (by omega)))).tr (f3.mono (M _ _ (by omega) (by omega)))).tr (f4.mono (M _ _ (by omega) (by omega)))
  · have R (c : Nat) : gR w4 c τ 0 = gR w c τ 0 := (f4.2.2.2 _ _ _ (fun z => by obtain ⟨z1, z2⟩ := z; omega)).trans ((b3 _ _ _ hb3).trans (q0 c))
    have k4 : w4.1 = w.1 := f4.1.trans k3
    refine ⟨by rw [k4]; exact s1, by rw [k4]; exact s2, by rw [k4]; exact s3, by rw [R]; exact s4, by rw [R]; exact s5, by rw [R]; exact s6, ?_⟩
    exact ((g1.fr f2 (fun z => by obtain ⟨z1, z2⟩ := z; omega) (fun z => by obtain ⟨z1, z2⟩ := z; omega)).fr f3 (fun z => by obtain ⟨z1, z2⟩ := z; omega) (fun z => by obtain ⟨z1, z2⟩ := z; omega)).fr f4 (fun z => by obtain ⟨z1, z2⟩ := z; omega) (fun z => by obtain ⟨z1, z2⟩ := z; omega)
  · have G (c : Nat) : gI w4 c τ 0 = gI (t5 w1 τ (aT A t 7) (aT A t 8) (aT A t 9) 0 (-1)) c τ 0 := (f4.2.2.1 _ _ _ (fun z => by obtain ⟨z1, z2⟩ := z; omega)).trans (f3.2.2.1 _ _ _ hb3)
    obtain ⟨c1, c2, c3, c4, c5⟩ := t5_g w1 τ (aT A t 7) (aT A t 8) (aT A t 9) 0 (-1)
    refine ⟨?_, (G _).trans c1, (G _).trans c2, (G _).trans c3, ((G _).trans c4).trans a10.symm, ((G _).trans c5).trans a11.symm, g3.fr f4 (fun z => by obtain ⟨z1, z2⟩ := z; omega), g4⟩
    rw [hn]
    exact ((((k1 _ _ h6 hr).to hf).fr f2 (fun z => by obtain ⟨z1, z2⟩ := z; omega) (fun z => by obtain ⟨z1, z2⟩ := z; omega)).fr f3 (fun z => by obtain ⟨z1, z2⟩ := z; omega) (fun z => by obtain ⟨z1, z2⟩ := z; omega)).fr f4 (fun z => by obtain ⟨z1, z2⟩ := z; omega) (fun z => by obtain ⟨z1, z2⟩ := z; omega)
