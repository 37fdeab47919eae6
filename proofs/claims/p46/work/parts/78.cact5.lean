/-! The class prints; arrays stay well-formed -/
theorem pr_T {n g : Nat} (f t c : Int32) (G A : Nat → Int32) (hg : g ≤ 6) {e : Nat} (he : e < 20) : aT (printA n g f t c G A) n e = if e = 16 then -1 else if e = 12 then -1 else if e = 11 then -1 else if e = 9 then c else if e = 8 then t else if e = 7 then f else if e < g + 1 then G e else 0 := by
  unfold aT printA
  rw [if_neg (show ¬ 17 + 20 * n + e = 0 by omega), if_neg (show ¬ 17 + 20 * n + e = 2 by omega), if_pos (show 17 + 20 * n ≤ 17 + 20 * n + e ∧ 17 + 20 * n + e < 17 + 20 * n + 20 by omega)]
  have k : ∀ j, (17 + 20 * n + e = 17 + 20 * n + j) = (e = j) := fun j => propext (by omega)
  have k2 : (17 + 20 * n + e < 17 + 20 * n + (g + 1)) = (e < g + 1) := propext (by omega)
  simp only [k, k2, show 17 + 20 * n + e - (17 + 20 * n) = e by omega]
theorem pr_o {n g : Nat} (f t c : Int32) (G A : Nat → Int32) {i : Nat} (h0 : ¬ i = 0) (h2 : ¬ i = 2) (hi : ¬ (17 + 20 * n ≤ i ∧ i < 17 + 20 * n + 20)) : printA n g f t c G A i = A i := by
  unfold printA
  rw [if_neg h0, if_neg h2, if_neg hi]
theorem pr_0 {n g : Nat} (f t c : Int32) (G A : Nat → Int32) : printA n g f t c G A 0 = nI (n + 1) := if_pos rfl
theorem pr_2 {n g : Nat} (f t c : Int32) (G A : Nat → Int32) : printA n g f t c G A 2 = A 2 + 1 := by
  unfold printA
  rw [if_neg (by omega), if_pos rfl]
theorem pr_w {n g : Nat} {f t c : Int32} {G A : Nat → Int32} (hg : g ≤ 6) (h2 : 2 ≤ g) (hG0 : G 0 = nI g) (hL : ∀ k, k < g → isLet (G (k + 1)) = 1) (hf : ∃ p, p < 5 ∧ f = nI p) (ht : ∃ p, p < 5 ∧ t = nI p) (hc : ∃ p, p < 10 ∧ c = nI p) : WTk (printA n g f t c G A) n := by
  have T := fun {e : Nat} (he : e < 20) => pr_T (n := n) f t c G A hg he
  have eH : ∀ h e, h < 2 → e < 4 → aH (printA n g f t c G A) n h e = if e = 0 then -1 else 0 := by
    intro h e hh he
    have := T (e := 12 + 4 * h + e) (by omega)
    refine Eq.trans this ?_
    by_cases c0 : e = 0
    · rw [if_pos c0]
      rcases (show h = 0 ∨ h = 1 by omega) with rfl | rfl
      · rw [if_neg (by omega), if_pos (by omega)]
      · rw [if_pos (by omega)]
    · rw [if_neg c0, if_neg (by omega), if_neg (by omega), if_neg (by omega), if_neg (by omega), if_neg (by omega), if_neg (by omega), if_neg (by omega)]
  have eL : ∀ k, k < 6 → aL (printA n g f t c G A) n k = if k < g then G (k + 1) else 0 := by
    intro k hk
    have := T (e := 1 + k) (by omega)
    refine Eq.trans this ?_
    rw [if_neg (by omega), if_neg (by omega), if_neg (by omega), if_neg (by omega), if_neg (by omega), if_neg (by omega), show 1 + k = k + 1 by omega]
    by_cases ck : k < g
    · rw [if_pos ck, if_pos (by omega)]
    · rw [if_neg ck, if_neg (by omega)]
  have e0 : aT (printA n g f t c G A) n 0 = nI g := by
    rw [T (by omega), if_neg (by omega), if_neg (by omega), if_neg (by omega), if_neg (by omega), if_neg (by omega), if_neg (by omega), if_pos (by omega), hG0]
  have e7 : aT (printA n g f t c G A) n 7 = f := by rw [T (by omega)]; simp
  have e8 : aT (printA n g f t c G A) n 8 = t := by rw [T (by omega)]; simp
  have e9 : aT (printA n g f t c G A) n 9 = c := by rw [T (by omega)]; simp
  have e10 : aT (printA n g f t c G A) n 10 = 0 := by rw [T (by omega), if_neg (by omega), if_neg (by omega), if_neg (by omega), if_neg (by omega), if_neg (by omega), if_neg (by omega), if_neg (by omega)]
  have e11 : aT (printA n g f t c G A) n 11 = -1 := by rw [T (by omega)]; simp
  refine ⟨⟨g, h2, hg, e0, fun k hk => by rw [eL k (by omega), if_pos hk]; exact hL k hk, fun k h1 h3 => by rw [eL k h3, if_neg (by omega)]⟩, by rw [e7]; exact hf, by rw [e8]; exact ht, by rw [e9]; exact hc, Or.inl e10, Or.inl e11, fun h hh => ?_, ?_⟩
  · rw [eH h 0 hh (by omega), eH h 1 hh (by omega), eH h 2 hh (by omega), eH h 3 hh (by omega)]
    exact ⟨Or.inl (if_pos rfl), ⟨0, by omega, if_neg (by omega)⟩, Or.inl (if_neg (by omega)), Or.inl (if_neg (by omega))⟩
  · rw [eH 0 3 (by omega) (by omega), e11]
    exact ⟨fun z => absurd z (by decide), fun z => absurd rfl z⟩
section CN
variable {w : FW} {x o : Nat} {A : Nat → Int32}
set_option maxHeartbeats 2000000 in
theorem t_print (X : XO w x o A) (hx : x < o) {d g : Nat} {G : Nat → Int32} (hs : WS w d) (hr : WR w d g (fun k => G (k + 1))) (h6 : g ≤ 6) (hG0 : G 0 = nI g) (hd : d + 2 ≤ o + 6 ∨ o + 46 ≤ d) (f t c : Int32) : CA w x o 1 (sPrint g f t c G A) (F_X4_tryPrint x d f t c w) := by
  obtain ⟨x1, x2, K⟩ := X
  obtain ⟨k1, k2, l1, k3, l2, k4, l3, r1, r2, r3, r4⟩ := K.s
  obtain ⟨hn, h8, hT⟩ := K.2.2.n
  unfold F_X4_tryPrint sPrint
  rw [c_isPier, Option.bind_some]
  by_cases hf : inn f 0 4 = 0
  · rw [if_pos hf, if_pos hf]
    exact CA.bad1
  rw [if_neg hf, if_neg hf, c_isPier, Option.bind_some]
  by_cases ht : inn t 0 4 = 0
  · rw [if_pos ht, if_pos ht]
    exact CA.bad1
  rw [if_neg ht, if_neg ht]
  by_cases hft : f = t
  · rw [if_pos hft, if_pos hft]
    exact CA.bad2
  rw [if_neg hft, if_neg hft]
  have e9 : (if c < 1 then (0 : Int32) else if c ≤ 9 then 1 else 0) = inn c 1 9 := by
    unfold inn
    by_cases y : c < 1
    · rw [if_pos y, if_pos y]
    · rw [if_neg y, if_neg y]
      by_cases c2 : c ≤ 9
      · rw [if_pos c2, if_neg (fun y => nle9 y c2)]
      · rw [if_neg c2, if_pos ?_]
        rw [Int32.le_iff_toInt_le] at c2
        rw [Int32.lt_iff_toInt_lt]
        omega
  by_cases hc : inn c 1 9 = 0
  · rw [if_pos hc]
    rw [hc] at e9
    by_cases c1 : c < 1
    · rw [if_pos c1]
      exact CA.bad2
    rw [if_neg c1] at e9 ⊢
    by_cases c2 : c ≤ 9
    · rw [if_pos c2] at e9
      exact absurd e9 (by decide)
    rw [if_neg c2]
    exact CA.bad2
  rw [if_neg hc]
  have c1 : ¬ c < 1 := fun y => by
    rw [if_pos y] at e9
    exact hc e9.symm
  have c2 : c ≤ 9 := by
    by_cases y : c ≤ 9
    · exact y
    · rw [if_neg c1, if_neg y] at e9
      exact absurd e9.symm hc
  rw [if_neg c1, if_pos c2, fg_t hs.1, hr.1, fg_t x1, fg_t x1, c_refuse x1, Option.bind_some, c_vowelCount hs hr h6, Option.bind_some, x2, fg_t k1]
  by_cases hg : nI g < 2
  · rw [if_pos hg, if_pos hg]
    exact CA.no rfl (by decide)
  rw [if_neg hg, if_neg hg]
  have g2 : 2 ≤ g := by
    have := (not_congr (nI_ltI (a := g) (b := 2) (by omega) (by omega))).mp hg
    omega
  have eV : cnt (fun k => if vow (G (k + 1)) = -1 then 0 else 1) g = gVow G g := rfl
  rw [eV]
  by_cases hv : gVow G g = 0
  · rw [if_pos hv, if_pos hv]
    exact CA.no rfl (by decide)
  rw [if_neg hv, if_neg hv, K.2.1.1, hn, c_refuse x1, Option.bind_some]
  by_cases h9 : aN A = 8
  · rw [if_neg (show ¬ nI (aN A) < (8 : Int32) from nI_nlt (b := 8) (by omega) (by omega)), if_pos (by rw [h9]; rfl)]
    exact CA.no rfl (by decide)
  have e1 := nI_clamp (n := aN A) (by omega)
  rw [if_pos (show nI (aN A) < (8 : Int32) from nI_lt (b := 8) (by omega) (by decide)), if_neg (show ¬ nI (aN A) = (8 : Int32) by rw [show (8 : Int32) = nI 8 from rfl, nI_inj (by omega) (by omega)]; exact h9), r1, fg_t k2, fg_t (by rw [l1]; exact nI_in (by omega) (by omega)), e1]
  obtain ⟨s1, s2, s3⟩ := K.1.tkt (t := aN A) (by omega)
  obtain ⟨p, -, hp, rfl⟩ := inn_1 (a := 0) (b := 4) (by omega) (by omega) hf
  obtain ⟨q, -, hq, rfl⟩ := inn_1 (a := 0) (b := 4) (by omega) (by omega) ht
  obtain ⟨j, hj1, hj, rfl⟩ := inn_1 (a := 1) (b := 9) (by omega) (by omega) hc
  have T := fun {e : Nat} (he : e < 20) => pr_T (n := aN A) (nI p) (nI q) (nI j) G A h6 he
  have eH : ∀ h, h < 2 → aH (printA (aN A) g (nI p) (nI q) (nI j) G A) (aN A) h 0 = -1 ∧ aH (printA (aN A) g (nI p) (nI q) (nI j) G A) (aN A) h 1 = 0 ∧ aH (printA (aN A) g (nI p) (nI q) (nI j) G A) (aN A) h 2 = 0 ∧ aH (printA (aN A) g (nI p) (nI q) (nI j) G A) (aN A) h 3 = 0 := by
    intro h hh
    have E : ∀ e, e < 4 → aH (printA (aN A) g (nI p) (nI q) (nI j) G A) (aN A) h e = if e = 0 then -1 else 0 := by
      intro e he
      refine Eq.trans (T (e := 12 + 4 * h + e) (by omega)) ?_
      by_cases c0 : e = 0
      · rw [if_pos c0]
        rcases (show h = 0 ∨ h = 1 by omega) with rfl | rfl
        · rw [if_neg (by omega), if_pos (by omega)]
        · rw [if_pos (by omega)]
      · rw [if_neg c0, if_neg (by omega), if_neg (by omega), if_neg (by omega), if_neg (by omega), if_neg (by omega), if_neg (by omega), if_neg (by omega)]
    exact ⟨E 0 (by omega), E 1 (by omega), E 2 (by omega), E 3 (by omega)⟩
  have e0 : aT (printA (aN A) g (nI p) (nI q) (nI j) G A) (aN A) 0 = nI g := by
    rw [T (by omega), if_neg (by omega), if_neg (by omega), if_neg (by omega), if_neg (by omega), if_neg (by omega), if_neg (by omega), if_pos (by omega), hG0]
  have eLn : aLen (printA (aN A) g (nI p) (nI q) (nI j) G A) (aN A) = g := by
    unfold aLen
    rw [e0, nI_clamp (by omega)]
  have e7 : aT (printA (aN A) g (nI p) (nI q) (nI j) G A) (aN A) 7 = nI p := by rw [T (by omega)]; simp
  have e8 : aT (printA (aN A) g (nI p) (nI q) (nI j) G A) (aN A) 8 = nI q := by rw [T (by omega)]; simp
  have e9' : aT (printA (aN A) g (nI p) (nI q) (nI j) G A) (aN A) 9 = nI j := by rw [T (by omega)]; simp
  obtain ⟨w1, ew, fw, sw, rw1⟩ := c_tstart (A := printA (aN A) g (nI p) (nI q) (nI j) G A) (t := aN A) s1 hs hr h6 (by omega) eLn (fun k hk => by
    refine (Eq.trans (T (e := 1 + k) (by omega)) ?_).symm
    rw [if_neg (by omega), if_neg (by omega), if_neg (by omega), if_neg (by omega), if_neg (by omega), if_neg (by omega), if_pos (by omega), show 1 + k = k + 1 by omega]) (by rw [T (by omega), if_neg (by omega), if_neg (by omega), if_neg (by omega), if_neg (by omega), if_neg (by omega), if_neg (by omega), if_neg (by omega)]) (by rw [T (by omega)]; simp) eH
  rw [e7, e8, e9'] at ew
  have s1k : w.1 (gR w 604 (o + 1) (aN A)) = 3 := s1.1
  refine (show F_X2_start (gR w 604 (o + 1) (aN A)) d (nI p) (nI q) (nI j) w = some w1 from ew) ▸ ?_
  rw [fg_t s1k, Option.bind_some]
  unfold tk at fw sw rw1 s2 s3
  have nb : ∀ y, y < o + 6 → ¬ bl (gR w 604 (o + 1) (aN A)) 5 y := fun y h z => by obtain ⟨z1, z2⟩ := z; omega
  have v1 : gR w1 400 x 0 = o := (fw.2.2.2 _ _ _ (nb x (by omega))).trans x2
  have v2 : gI w1 101 o 0 = nI (aN A) := (fw.2.2.1 _ _ _ (nb o (by omega))).trans (K.2.1.1.trans hn)
  have v3 : gI w1 106 o 0 = A 2 := (fw.2.2.1 _ _ _ (nb o (by omega))).trans K.2.1.2.2.1
  have v4 : gR (sI w1 101 o 0 (nI (aN A) + 1)) 400 x 0 = o := v1
  have v5 : gI (sI w1 101 o 0 (nI (aN A) + 1)) 106 o 0 = A 2 := by rw [gI_sI, if_neg (fun y => absurd y.1 (by decide))]; exact v3
  rw [v1, fg_t k1, v2, v4, v5, nI_1]
  have f2 : Fr w1 (sI (sI w1 101 o 0 (nI (aN A + 1))) 106 o 0 (A 2 + 1)) (bl o 1) := (Fr.sI _ _ _ _ _ (bl_in (by omega) (by omega))).tr (Fr.sI _ _ _ _ _ (bl_in (by omega) (by omega)))
  have S1 : OS w1 o := K.1.tick (t := aN A) (by omega) fw sw
  have nb2 : ∀ y, o + 1 ≤ y → ¬ bl o 1 y := fun y h z => by obtain ⟨z1, z2⟩ := z; omega
  refine CA.ok ((fw.mono (fun y z => by obtain ⟨z1, z2⟩ := z; exact ⟨by omega, by omega⟩)).tr (f2.mono (fun y z => by obtain ⟨z1, z2⟩ := z; exact ⟨by omega, by omega⟩))) (S1.num rfl rfl (fun _ _ _ => rfl) (fun a i => by rw [gI_sI, if_neg (fun z => absurd z.1 (by decide)), gI_sI, if_neg (fun z => absurd z.1 (by decide))])) ?_
  obtain ⟨b1, b2, b3, b4, b5, b6, bm, bp, bd, bt⟩ := id K.2.1
  have gO : ∀ c, ¬ c = 101 → ¬ c = 106 → gI (sI (sI w1 101 o 0 (nI (aN A + 1))) 106 o 0 (A 2 + 1)) c o 0 = gI w c o 0 := fun c h1 h2 => by
    rw [gI_sI, if_neg (fun y => h2 y.1), gI_sI, if_neg (fun y => h1 y.1)]
    exact fw.2.2.1 _ _ _ (nb o (by omega))
  have gQ : ∀ c y i, o + 1 ≤ y → y < o + 6 → gI (sI (sI w1 101 o 0 (nI (aN A + 1))) 106 o 0 (A 2 + 1)) c y i = gI w c y i := fun c y i h1 h2 => (f2.2.2.1 _ _ _ (nb2 y h1)).trans (fw.2.2.1 _ _ _ (nb y h2))
  have hP : ∀ i, ¬ i = 0 → ¬ i = 2 → i < 17 → printA (aN A) g (nI p) (nI q) (nI j) G A i = A i := fun i h1 h2 h3 => pr_o _ _ _ _ _ h1 h2 (by omega)
  have hN : aN (printA (aN A) g (nI p) (nI q) (nI j) G A) = aN A + 1 := by
    show (printA (aN A) g (nI p) (nI q) (nI j) G A 0).toNatClampNeg = aN A + 1
    rw [pr_0, nI_clamp (by omega)]
  refine ⟨?_, (gO 105 (by decide) (by decide)).trans (b2.trans (hP 1 (by omega) (by omega) (by omega)).symm), ?_, (gO 107 (by decide) (by decide)).trans (b4.trans (hP 3 (by omega) (by omega) (by omega)).symm), (gO 108 (by decide) (by decide)).trans (b5.trans (hP 4 (by omega) (by omega) (by omega)).symm), (gO 109 (by decide) (by decide)).trans (b6.trans (hP 5 (by omega) (by omega) (by omega)).symm), fun y hy => ?_, fun y hy => ?_, ?_, fun u hu => ?_⟩
  · rw [pr_0, gI_sI, if_neg (fun y => absurd y.1 (by decide)), gI_s]
  · rw [pr_2, gI_s]
  · rw [gQ _ _ _ (by omega) (by omega), bm y hy, hP (7 + y) (by omega) (by omega) (by omega)]
  · rw [gQ _ _ _ (by omega) (by omega), bp y hy, shut_congr (hP 6 (by omega) (by omega) (by omega))]
  · have h66 := K.2.2.d.2
    rw [hP 10 (by omega) (by omega) (by omega)]
    refine ⟨by rw [gQ _ _ _ (by omega) (by omega)]; exact bd.1, fun k hk => ?_⟩
    show _ = printA (aN A) g (nI p) (nI q) (nI j) G A (11 + k)
    rw [gQ _ _ _ (by omega) (by omega), hP (11 + k) (by omega) (by omega) (by omega)]
    exact bd.2 k hk
  · rw [hN] at hu
    have et : tk (sI (sI w1 101 o 0 (nI (aN A + 1))) 106 o 0 (A 2 + 1)) o u = gR w 604 (o + 1) u := fw.2.2.2 _ _ _ (nb (o + 1) (by omega))
    rw [et]
    by_cases cu : u = aN A
    · rw [cu]
      exact rw1.fr f2 (fun y h1 h2 => nb2 y (by omega))
    · obtain ⟨z1, z2, z3⟩ := K.1.tkt (t := u) (by omega)
      have zd := K.1.inj (t := u) (t' := aN A) (by omega) (by omega) cu
      unfold tk at z2 z3 zd
      have hR := bt u (by omega)
      unfold tk at hR
      exact ((hR.fr fw (fun y h1 h2 z => by obtain ⟨q1, q2⟩ := z; omega)).fr f2 (fun y h1 h2 => nb2 y (by omega))).to (fun e he => pr_o _ _ _ _ _ (by omega) (by omega) (by omega)) (hT u (by omega)).len.2
end CN
