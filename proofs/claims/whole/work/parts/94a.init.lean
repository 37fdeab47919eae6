/-! What the constructors leave: the two together -/
theorem WCp_up {w : FW} {sz q : Nat} (j : Nat) (h : q < sz + 143 + 46 * j) : ∀ k, gSame (WCp w sz (j + k)) (WCp w sz j) q
  | 0 => gSame.rf _ _
  | k + 1 => (show gSame (WCp w sz (j + k + 1)) (WCp w sz (j + k)) q from WO_off (show ¬ q = sz + 143 + 46 * (j + k) by omega) (by omega)).tr (WCp_up j h k)
theorem WC_p {w : FW} {b sz q : Nat} (h : ¬ q = b) (h1 : ¬ q = sz + 138) : gSame (WC w b sz) (WCp w sz 8) q := ((((((((((gSame.sI h).tr (gSame.sI h)).tr (gSame.sR h)).tr (gSame.sR h)).tr (gSame.sR h)).tr (gSame.sR h)).tr (gSame.sR h)).tr (gSame.sR h)).tr (gSame.sR h)).tr (gSame.nA h)).tr (show gSame _ _ q from gOff.nF _ _ _ _ _ _ q h1)
theorem m8_k (w : FW) (sz : Nat) : (∀ k, k < 8 → (WM8 w sz).1 (sz + k) = 11) ∧ (∀ k, k < 8 → ∀ c i, gI (WM8 w sz) c (sz + k) i = 0) ∧ (WM8 w sz).2.1 (sz + 0) = 177 ∧ (WM8 w sz).2.1 (sz + 1) = 177 ∧ (WM8 w sz).2.1 (sz + 2) = 177 ∧ (WM8 w sz).2.1 (sz + 3) = 1416 ∧ (WM8 w sz).2.1 (sz + 4) = 60 ∧ (WM8 w sz).2.1 (sz + 5) = 240 ∧ (WM8 w sz).2.1 (sz + 6) = 60 ∧ (WM8 w sz).2.1 (sz + 7) = 7 := by
  refine ⟨fun k hk => ?_, fun k hk c i => ?_, ?_, ?_, ?_, ?_, ?_, ?_, ?_, ?_⟩
  · unfold WM8 nA
    dsimp only
    (repeat' split) <;> first | rfl | omega
  · show (WM8 w sz).2.2.1 c (sz + k) i = 0
    unfold WM8 nA
    dsimp only
    (repeat' split) <;> first | rfl | omega
  all_goals
    unfold WM8 nA
    dsimp only
    (repeat' split) <;> first | rfl | omega
section WMG
variable (w : FW) (M : Nat)
theorem wM_g {j : Nat} : gSame (WM w M (M + 1)) (WM8 w (M + 1)) (M + 1 + j) := by
  have h : ¬ M + 1 + j = M := by omega
  exact ((((((((((gSame.sI h).tr (gSame.sI h)).tr (gSame.sR h)).tr (gSame.sR h)).tr (gSame.sR h)).tr (gSame.sR h)).tr (gSame.sR h)).tr (gSame.sR h)).tr (gSame.sR h)).tr (gSame.sR h)).tr (gSame.nA h)
theorem wM_I (c : Nat) (h : ¬ c = 513) (h1 : ¬ c = 514) : gI (WM w M (M + 1)) c M 0 = 0 := by
  unfold WM
  rw [gI_n (by omega), gI_n (by omega)]
  simp only [gI_sR]
  exact nA_I _ _ _ _ _ _
theorem wM_13 : gI (WM w M (M + 1)) 513 M 0 = -1 ∧ gI (WM w M (M + 1)) 514 M 0 = -1 := by
  unfold WM
  refine ⟨?_, ?_⟩
  · rw [gI_n (by omega), gI_s]
  · rw [gI_s]
theorem wM_a {k : Nat} (h1 : 1 ≤ k) (h8 : k ≤ 8) (i : Nat) : gI (WM w M (M + 1)) 601 (M + k) i = 0 := by
  obtain ⟨j, rfl⟩ : ∃ j, k = 1 + j := ⟨k - 1, by omega⟩
  rw [show M + (1 + j) = M + 1 + j by omega, (wM_g w M (j := j)).2.2.1]
  exact (m8_k _ _).2.1 j (by omega) 601 i
theorem wM_MB : MB (WM w M (M + 1)) M := by
  obtain ⟨k8, -, l1, l2, l3, l4, l5, l6, l7, l8⟩ := m8_k w (M + 1)
  have kk : ∀ j, j < 8 → (WM w M (M + 1)).1 (M + 1 + j) = 11 := fun j hj => (wM_g w M (j := j)).1.trans (k8 j hj)
  have ll : ∀ j, (WM w M (M + 1)).2.1 (M + 1 + j) = (WM8 w (M + 1)).2.1 (M + 1 + j) := fun j => (wM_g w M (j := j)).2.1
  have e : ∀ c, gR (WM w M (M + 1)) c M 0 = gR (sR (sR (sR (sR (sR (sR (sR (sR (nA (WM8 w (M + 1)) M 6 0) 501 M 0 (M + 1)) 502 M 0 (M + 1 + 1)) 503 M 0 (M + 1 + 2)) 504 M 0 (M + 1 + 3)) 507 M 0 (M + 1 + 4)) 508 M 0 (M + 1 + 5)) 509 M 0 (M + 1 + 6)) 510 M 0 (M + 1 + 7)) c M 0 := fun c => by
    unfold WM
    rw [gR_sI, gR_sI]
  have kM : (WM w M (M + 1)).1 M = 6 := by
    unfold WM
    simp only [sI_k1, sR_k1]
    exact nA_k _ _ _ _
  refine ⟨kM, kk 0 (by omega), kk 1 (by omega), kk 2 (by omega), kk 3 (by omega), kk 4 (by omega), kk 5 (by omega), kk 6 (by omega), kk 7 (by omega), (ll 0).trans l1, (ll 1).trans l2, (ll 2).trans l3, (ll 3).trans l4, (ll 4).trans l5, (ll 5).trans l6, (ll 6).trans l7, (ll 7).trans l8, ?_, ?_, ?_, ?_, ?_, ?_, ?_, ?_⟩
  · rw [e, gR_n (by omega), gR_n (by omega), gR_n (by omega), gR_n (by omega), gR_n (by omega), gR_n (by omega), gR_n (by omega), gR_s]
  · rw [e, gR_n (by omega), gR_n (by omega), gR_n (by omega), gR_n (by omega), gR_n (by omega), gR_n (by omega), gR_s]
  · rw [e, gR_n (by omega), gR_n (by omega), gR_n (by omega), gR_n (by omega), gR_n (by omega), gR_s]
  · rw [e, gR_n (by omega), gR_n (by omega), gR_n (by omega), gR_n (by omega), gR_s]
  · rw [e, gR_n (by omega), gR_n (by omega), gR_n (by omega), gR_s]
  · rw [e, gR_n (by omega), gR_n (by omega), gR_s]
  · rw [e, gR_n (by omega), gR_s]
  · rw [e, gR_s]
end WMG
theorem wI_e (x : Nat) : wI x = WM (WC w0 x (x + 1)) (x + 512) (x + 512 + 1) := rfl
section WINI
variable (x : Nat)
theorem wI_M (c : Nat) (h : ¬ c = 513) (h1 : ¬ c = 514) : gI (wI x) c (x + 512) 0 = 0 := by
  rw [wI_e]
  exact wM_I _ _ c h h1
theorem wI_MB : MB (wI x) (x + 512) := by
  rw [wI_e]
  exact wM_MB _ _
theorem wI_a {k : Nat} (h1 : 1 ≤ k) (h8 : k ≤ 8) (i : Nat) : arW (wI x) (x + 512) k i = 0 := by
  rw [wI_e]
  exact wM_a _ _ h1 h8 i
theorem wI_13 : gI (wI x) 413 x 0 = -1 ∧ gI (wI x) 414 x 0 = -1 ∧ gI (wI x) 513 (x + 512) 0 = -1 ∧ gI (wI x) 514 (x + 512) 0 = -1 := by
  have g : ∀ c, gI (wI x) c x 0 = gI (WC w0 x (x + 1)) c x 0 := fun c => (WM_off (w := WC w0 x (x + 1)) (b := x + 512) (sz := x + 513) (q := x) (by omega) (by omega)).2.2.1 c 0
  refine ⟨(g 413).trans ?_, (g 414).trans ?_, ?_, ?_⟩
  · unfold WC
    rw [gI_n (by omega), gI_s]
  · unfold WC
    rw [gI_s]
  · rw [wI_e]
    exact (wM_13 _ _).1
  · rw [wI_e]
    exact (wM_13 _ _).2
theorem wI_c {q : Nat} (h : q < x + 512) : gSame (wI x) (WC w0 x (x + 1)) q := WM_off (by omega) (by omega)
theorem wI_p {q : Nat} (h : x < q) (h1 : ¬ q = x + 139) (h2 : q < x + 512) : gSame (wI x) (WCp w0 (x + 1) 8) q := (wI_c x h2).tr (WC_p (by omega) (by omega))
theorem wI_6 {q : Nat} (h : x < q) (h2 : q < x + 144) (h1 : ¬ q = x + 139) : gSame (wI x) (WC6 w0 (x + 1)) q := (wI_p x h h1 (by omega)).tr (WCp_up 0 (by omega) 8)
theorem wI_o (i : Nat) (hi : i < 11) : OS (wI x) (bs x i) ∧ OR (wI x) (bs x i) A0 := by
  have fin : ∀ (w' : FW) (o : Nat), o = bs x i → (∀ q, o ≤ q → q < o + 46 → gSame (wI x) (WO w' o (o + 1)) q) → OS (wI x) (bs x i) ∧ OR (wI x) (bs x i) A0 := by
    intro w' o e g
    rw [← e]
    exact ⟨(WO_ok w' o).1.gs g, (WO_ok w' o).2.gs g⟩
  by_cases h : i < 3
  · have eb : bs x i = x + 1 + 46 * i := if_pos h
    have h6 : ∀ q, x < q → q < x + 139 → gSame (wI x) (WC3 w0 (x + 1)) q := fun q q1 q2 => (wI_6 x q1 (by omega) (by omega)).tr (WC6_off (by omega))
    rcases (show i = 0 ∨ i = 1 ∨ i = 2 by omega) with rfl | rfl | rfl
    · exact fin w0 (x + 1) eb.symm (fun q q1 q2 => (h6 q (by omega) (by omega)).tr ((WO_off (by omega) (by omega)).tr (WO_off (by omega) (by omega))))
    · exact fin (WO w0 (x + 1) (x + 1 + 1)) (x + 1 + 46) eb.symm (fun q q1 q2 => (h6 q (by omega) (by omega)).tr (WO_off (by omega) (by omega)))
    · exact fin (WO (WO w0 (x + 1) (x + 1 + 1)) (x + 1 + 46) (x + 1 + 47)) (x + 1 + 92) (by omega) (fun q q1 q2 => h6 q (by omega) (by omega))
  · have eb : bs x i = x + 144 + 46 * (i - 3) := if_neg h
    refine fin (WCp w0 (x + 1) (i - 3)) (x + 1 + 143 + 46 * (i - 3)) (by omega) (fun q q1 q2 => ?_)
    have h1 := wI_p x (q := q) (by omega) (by omega) (by omega)
    have h2 := WCp_up (w := w0) (sz := x + 1) (q := q) (i - 3 + 1) (by omega) (8 - (i - 3 + 1))
    rw [show i - 3 + 1 + (8 - (i - 3 + 1)) = 8 by omega] at h2
    have h3 := h1.tr h2
    have e9 : WCp w0 (x + 1) (i - 3 + 1) = WO (WCp w0 (x + 1) (i - 3)) (x + 1 + 143 + 46 * (i - 3)) (x + 1 + 144 + 46 * (i - 3)) := rfl
    rw [e9, show x + 1 + 144 + 46 * (i - 3) = x + 1 + 143 + 46 * (i - 3) + 1 by omega] at h3
    exact h3
theorem wI_x (c : Nat) (h : ¬ c = 413) (h1 : ¬ c = 414) : gI (wI x) c x 0 = 0 := by
  rw [(wI_c x (q := x) (by omega)).2.2.1]
  show gI (sI (sI (sR (sR (sR (sR (sR (sR (sR (nA (WCf w0 (x + 1)) x 5 0) 400 x 0 (x + 1)) 401 x 0 (x + 1 + 46)) 402 x 0 (x + 1 + 92)) 404 x 0 (x + 1 + 138)) 406 x 0 (x + 1 + 139)) 407 x 0 (x + 1 + 141)) 409 x 0 (x + 1 + 142)) 413 x 0 (-1)) 414 x 0 (-1)) c x 0 = 0
  rw [gI_n (by omega), gI_n (by omega)]
  simp only [gI_sR]
  exact nA_I _ _ _ _ _ _
theorem wI_ref : gR (wI x) 400 x 0 = x + 1 ∧ gR (wI x) 401 x 0 = x + 47 ∧ gR (wI x) 402 x 0 = x + 93 ∧ gR (wI x) 404 x 0 = x + 139 ∧ gR (wI x) 406 x 0 = x + 140 ∧ gR (wI x) 407 x 0 = x + 142 ∧ gR (wI x) 409 x 0 = x + 143 := by
  have e : ∀ c, gR (wI x) c x 0 = gR (sR (sR (sR (sR (sR (sR (sR (nA (WCf w0 (x + 1)) x 5 0) 400 x 0 (x + 1)) 401 x 0 (x + 1 + 46)) 402 x 0 (x + 1 + 92)) 404 x 0 (x + 1 + 138)) 406 x 0 (x + 1 + 139)) 407 x 0 (x + 1 + 141)) 409 x 0 (x + 1 + 142)) c x 0 := fun c => by
    rw [(wI_c x (q := x) (by omega)).2.2.2]
    unfold WC
    rw [gR_sI, gR_sI]
  refine ⟨?_, ?_, ?_, ?_, ?_, ?_, ?_⟩
  · rw [e, gR_n (by omega), gR_n (by omega), gR_n (by omega), gR_n (by omega), gR_n (by omega), gR_n (by omega), gR_s]
  · rw [e, gR_n (by omega), gR_n (by omega), gR_n (by omega), gR_n (by omega), gR_n (by omega), gR_s]
  · rw [e, gR_n (by omega), gR_n (by omega), gR_n (by omega), gR_n (by omega), gR_s]
  · rw [e, gR_n (by omega), gR_n (by omega), gR_n (by omega), gR_s]
  · rw [e, gR_n (by omega), gR_n (by omega), gR_s]
  · rw [e, gR_n (by omega), gR_s]
  · rw [e, gR_s]
theorem wI_CI : CI (wI x) x := by
  obtain ⟨r0, r1, r2, r4, r6, r7, r9⟩ := wI_ref x
  have g139 := wI_c x (q := x + 139) (by omega)
  have h : ¬ x + 139 = x := by omega
  have f139 : gSame (WC w0 x (x + 1)) (WCf w0 (x + 1)) (x + 139) := (((((((((gSame.sI h).tr (gSame.sI h)).tr (gSame.sR h)).tr (gSame.sR h)).tr (gSame.sR h)).tr (gSame.sR h)).tr (gSame.sR h)).tr (gSame.sR h)).tr (gSame.sR h)).tr (gSame.nA h)
  have p139 := g139.tr f139
  have W6 : WS (wI x) (x + 140) := (WW_ok (WC3 w0 (x + 1)) (x + 140)).gs ((wI_6 x (by omega) (by omega) (by omega)).tr ((gSame.nA (by omega)).tr (gSame.nA (by omega)))) ((wI_6 x (by omega) (by omega) (by omega)).tr ((gSame.nA (by omega)).tr (gSame.nA (by omega))))
  have s142 := wI_6 x (q := x + 142) (by omega) (by omega) (by omega)
  have s143 := wI_6 x (q := x + 143) (by omega) (by omega) (by omega)
  have p3 : ∀ j, 3 ≤ j → OFF (wI x) x j = x + 144 + 46 * (j - 3) := fun j hj => by
    rw [OFF_p _ _ hj]
    refine (p139.2.2.2 _ _).trans ?_
    unfold WCf
    rw [show x + 139 = x + 1 + 138 by omega, nF_R]
  have eo : ∀ j, j < 11 → OFF (wI x) x j = bs x j := fun j hj => by
    unfold bs
    by_cases h3 : j < 3
    · rw [if_pos h3]
      rcases (show j = 0 ∨ j = 1 ∨ j = 2 by omega) with rfl | rfl | rfl
      · exact r0
      · exact r1
      · exact rfl
    · rw [if_neg h3]
      exact p3 j (by omega)
  have kx : (wI x).1 x = 5 := by
    rw [(wI_c x (q := x) (by omega)).1]
    unfold WC
    simp only [sI_k1, sR_k1]
    exact nA_k _ _ _ _
  have k139 : (wI x).1 (x + 139) = 13 ∧ (wI x).2.1 (x + 139) = 8 := by
    rw [p139.1, p139.2.1]
    unfold WCf
    rw [show x + 139 = x + 1 + 138 by omega]
    exact ⟨nF_k _ _ _ _ _ _, nF_l _ _ _ _ _ _⟩
  have k142 : (wI x).1 (x + 142) = 10 ∧ (wI x).2.1 (x + 142) = 60 := by
    rw [s142.1, s142.2.1]
    unfold WC6
    rw [nA_k' (by omega), nA_l' (by omega), show x + 142 = x + 1 + 141 by omega]
    exact ⟨nA_k _ _ _ _, nA_l _ _ _ _⟩
  have k143 : (wI x).1 (x + 143) = 10 ∧ (wI x).2.1 (x + 143) = 17 := by
    rw [s143.1, s143.2.1]
    unfold WC6
    rw [show x + 143 = x + 1 + 142 by omega]
    exact ⟨nA_k _ _ _ _, nA_l _ _ _ _⟩
  refine ⟨kx, r2, r4, k139.1, k139.2, r6, W6, r7, k142.1, k142.2, r9, k143.1, k143.2, fun i hi => (wI_o x i hi).1, fun j hj => ⟨j, hj, eo j hj⟩, fun j k hj hk e => ?_⟩
  rw [eo j hj, eo k hk] at e
  unfold bs at e
  split at e <;> split at e <;> omega
end WINI
