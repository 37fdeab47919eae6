/-! The class: what a change of an office leaves -/
theorem OS.again {w w' : FW} {o : Nat} (h : OS w o) (k : w'.1 = w.1) (l : w'.2.1 = w.2.1) (r0 : ∀ c i, gR w' c o i = gR w c o i) (r1 : ∀ c i, gR w' c (o + 1) i = gR w c (o + 1) i) (hw : WS w' (o + 2)) (ht : ∀ j, j < 8 → TS w' (o + 6 + 5 * j)) : OS w' o := by
  obtain ⟨k1, k2, l1, k3, l2, k4, l3, q1, q2, q3, q4, -, -, hi, hj⟩ := h
  refine ⟨by rw [k]; exact k1, by rw [k]; exact k2, by rw [l]; exact l1, by rw [k]; exact k3, by rw [l]; exact l2, by rw [k]; exact k4, by rw [l]; exact l3, by rw [r0]; exact q1, by rw [r0]; exact q2, by rw [r0]; exact q3, by rw [r0]; exact q4, hw, ht, fun j h1 => by rw [r1]; exact hi j h1, fun j m h1 h2 => by rw [r1, r1]; exact hj j m h1 h2⟩
/-- a change that touches no letter and no reference of the office -/
theorem OS.num {w w' : FW} {o : Nat} (h : OS w o) (k : w'.1 = w.1) (l : w'.2.1 = w.2.1) (r : ∀ c a i, gR w' c a i = gR w c a i) (g : ∀ a i, gI w' 600 a i = gI w 600 a i) : OS w' o := by
  have hW : ∀ d, WS w d → WS w' d := fun d hd => ⟨by rw [k]; exact hd.1, by rw [k]; exact hd.2.1, by rw [l]; exact hd.2.2.1, by rw [r]; exact hd.2.2.2.1, fun j hj => by rw [g]; exact hd.2.2.2.2 j hj⟩
  refine h.again k l (fun c i => r c o i) (fun c i => r c (o + 1) i) (hW _ h.2.2.2.2.2.2.2.2.2.2.2.1) (fun j hj => ?_)
  obtain ⟨s1, s2, s3, s4, s5, s6, s7⟩ := h.2.2.2.2.2.2.2.2.2.2.2.2.1 j hj
  exact ⟨by rw [k]; exact s1, by rw [k]; exact s2, by rw [k]; exact s3, by rw [r]; exact s4, by rw [r]; exact s5, by rw [r]; exact s6, hW _ s7⟩
theorem OS.tick {w w' : FW} {o t : Nat} (h : OS w o) (ht : t < 8) (hf : Fr w w' (bl (tk w o t) 5)) (hs : TS w' (tk w o t)) : OS w' o := by
  obtain ⟨b1, b2, b3⟩ := h.tkt ht
  have hb : ∀ q, q < o + 6 → ¬ bl (tk w o t) 5 q := fun q hq z => by obtain ⟨z1, z2⟩ := z; omega
  refine h.again hf.1 hf.2.1 (fun c i => hf.2.2.2 _ _ _ (hb _ (by omega))) (fun c i => hf.2.2.2 _ _ _ (hb _ (by omega))) (h.2.2.2.2.2.2.2.2.2.2.2.1.fr hf (hb _ (by omega)) (hb _ (by omega))) (fun j hj => ?_)
  obtain ⟨i, hi, e⟩ := h.2.2.2.2.2.2.2.2.2.2.2.2.2.1 t ht
  have e' : tk w o t = o + 6 + 5 * i := e
  by_cases c : j = i
  · rw [c, ← e']
    exact hs
  · refine (h.2.2.2.2.2.2.2.2.2.2.2.2.1 j hj).fr hf (fun q h1 h2 z => ?_)
    obtain ⟨z1, z2⟩ := z
    omega
theorem tk_fr {w w' : FW} {o t : Nat} {P : Nat → Prop} (hf : Fr w w' P) (h : ¬ P (o + 1)) : tk w' o t = tk w o t := hf.2.2.2 _ _ _ h
theorem shut_congr {A A' : Nat → Int32} (h : A' 6 = A 6) (p : Nat) : aShut A' p = aShut A p := by
  unfold aShut
  rw [h]
theorem OR.tick {w w' : FW} {o t : Nat} {A A' : Nat → Int32} (hr : OR w o A) (h : OS w o) (h8 : aN A ≤ 8) (h10 : (A 10).toNatClampNeg ≤ 6) (ht : t < aN A) (hf : Fr w w' (bl (tk w o t) 5)) (hs : TR w' (tk w o t) A' t) (hlow : ∀ i, i < 17 → A' i = A i) (hoth : ∀ u, u < aN A → ¬ u = t → sameT A A' u u ∧ aLen A u ≤ 6) : OR w' o A' := by
  obtain ⟨b1, b2, b3⟩ := h.tkt (t := t) (by omega)
  have hb : ∀ q, q < o + 6 → ¬ bl (tk w o t) 5 q := fun q hq z => by obtain ⟨z1, z2⟩ := z; omega
  have g : ∀ c i, gI w' c o i = gI w c o i := fun c i => hf.2.2.1 _ _ _ (hb _ (by omega))
  have eN : aN A' = aN A := by unfold aN; rw [hlow 0 (by omega)]
  obtain ⟨a1, a2, a3, a4, a5, a6, am, ap, ad, at9⟩ := hr
  refine ⟨by rw [g, a1, hlow 0 (by omega)], by rw [g, a2, hlow 1 (by omega)], by rw [g, a3, hlow 2 (by omega)], by rw [g, a4, hlow 3 (by omega)], by rw [g, a5, hlow 4 (by omega)], by rw [g, a6, hlow 5 (by omega)], fun p hp => by rw [hf.2.2.1 _ _ _ (hb _ (by omega)), am p hp, hlow (7 + p) (by omega)], fun p hp => by rw [hf.2.2.1 _ _ _ (hb _ (by omega)), ap p hp, shut_congr (hlow 6 (by omega))], ?_, fun u hu => ?_⟩
  · rw [hlow 10 (by omega)]
    exact (ad.fr hf (hb _ (by omega)) (hb _ (by omega))).to (fun k hk => (hlow (11 + k) (by omega)).symm)
  · rw [eN] at hu
    rw [tk_fr hf (hb _ (by omega))]
    by_cases c : u = t
    · rw [c]; exact hs
    · have hd := h.inj (t := u) (t' := t) (by omega) (by omega) c
      exact ((at9 u hu).fr hf (fun q h1 h2 z => by obtain ⟨z1, z2⟩ := z; omega)).to (hoth u hu c).1 (hoth u hu c).2
/-- the five accounts of an office -/
def n5 (w : FW) (o : Nat) (a b c d e : Int32) : FW := sI (sI (sI (sI (sI w 105 o 0 a) 106 o 0 b) 107 o 0 c) 108 o 0 d) 109 o 0 e
theorem n5_fr (w : FW) (o : Nat) (a b c d e : Int32) {P : Nat → Prop} (hb : P o) : Fr w (n5 w o a b c d e) P :=
  ((((Fr.sI w 105 o 0 _ hb).tr (Fr.sI _ 106 o 0 _ hb)).tr (Fr.sI _ 107 o 0 _ hb)).tr (Fr.sI _ 108 o 0 _ hb)).tr (Fr.sI _ 109 o 0 _ hb)
theorem n5_g (w : FW) (o : Nat) (a b c d e : Int32) : gI (n5 w o a b c d e) 105 o 0 = a ∧ gI (n5 w o a b c d e) 106 o 0 = b ∧ gI (n5 w o a b c d e) 107 o 0 = c ∧ gI (n5 w o a b c d e) 108 o 0 = d ∧ gI (n5 w o a b c d e) 109 o 0 = e ∧ gI (n5 w o a b c d e) 101 o 0 = gI w 101 o 0 := by
  unfold n5
  refine ⟨?_, ?_, ?_, ?_, ?_, ?_⟩ <;> simp [gI_sI]
theorem n5_6 (w : FW) (o : Nat) (a b c d e : Int32) (q i : Nat) : gI (n5 w o a b c d e) 600 q i = gI w 600 q i := by
  unfold n5
  simp [gI_sI]
theorem WA.d {A : Nat → Int32} (hA : WA A) : nI (A 10).toNatClampNeg = A 10 ∧ (A 10).toNatClampNeg ≤ 6 := by
  obtain ⟨n, h1, h2, -⟩ := hA.2.1
  rw [h2, nI_clamp (by omega)]
  exact ⟨rfl, h1⟩
set_option maxHeartbeats 2000000 in
theorem c_otake {w : FW} {o o' : Nat} {A : Nat → Int32} (hs : OS w o) (K : KO w o' A) (hd : o + 46 ≤ o' ∨ o' + 46 ≤ o) : ∃ w', F_X1_take o o' w = some w' ∧ Fr w w' (bl o 46) ∧ OS w' o ∧ OR w' o A := by
  obtain ⟨k1', k2', l1', k3', l2', k4', l3', r1', r2', r3', r4'⟩ := K.s
  obtain ⟨k1, k2, l1, k3, l2, k4, l3, r1, r2, r3, r4, sw, st9, si, sj⟩ := id hs
  obtain ⟨n1', h8⟩ := K.n
  have hA := K.2.2
  have hn := hA.n
  obtain ⟨a1, a2, a3, a4, a5, a6, am, ap, ad, at9⟩ := id K.2.1
  -- nothing of o' is touched by what is touched of o
  have off : ∀ q, o' ≤ q → q < o' + 46 → ¬ bl o 46 q := fun q h1 h2 z => by obtain ⟨z1, z2⟩ := z; omega
  have H1 : ∃ wa, fLoop (σ := Int32 × FW) (ρ := FW) (fun s1 => fg (w.1 o' = 2) inferInstance ((if (gI s1.2 101 o' 0) ≤ s1.1 then some (.inr s1.2) else fg (w.1 o = 2) inferInstance (fg (w.1 (gR s1.2 100 o 0) = 14) inferInstance (fg (¬ (s1.1 < 0 ∨ w.2.1 (gR s1.2 100 o 0) ≤ Int32.toNatClampNeg s1.1)) inferInstance (fg (w.1 (gR s1.2 100 o' 0) = 14) inferInstance (fg (¬ (s1.1 < 0 ∨ w.2.1 (gR s1.2 100 o' 0) ≤ Int32.toNatClampNeg s1.1)) inferInstance (fg (w.1 (gR s1.2 604 (gR s1.2 100 o 0) (Int32.toNatClampNeg s1.1)) = 3) inferInstance ((F_X2_take (gR s1.2 604 (gR s1.2 100 o 0) (Int32.toNatClampNeg s1.1)) (gR s1.2 604 (gR s1.2 100 o' 0) (Int32.toNatClampNeg s1.1)) s1.2).bind (fun r17 => some (.inl ((s1.1 + 1), r17)))))))))))) (0, w) = some wa ∧ (Fr w wa (bl (o + 6) 40) ∧ OS wa o ∧ ∀ t, t < aN A → TR wa (tk w o t) A t) := by
    refine fLoop_inv (fun k s => s.1 = nI k ∧ Fr w s.2 (bl (o + 6) 40) ∧ OS s.2 o ∧ ∀ t, t < k → TR s.2 (tk w o t) A t) (aN A) ⟨rfl, Fr.rf w _, hs, fun t ht => by omega⟩ (fun k s hk hI => ?_) (fun s hI => ?_)
    · obtain ⟨z, w1⟩ := s
      obtain ⟨rfl, f1, s1, g1⟩ := hI
      have c1 : ¬ nI (aN A) ≤ nI k := nI_ge hk (by omega)
      have e1 := nI_clamp (n := k) (by omega)
      have off6 : ∀ q, q < o + 6 → ¬ bl (o + 6) 40 q := fun q h1 z => by obtain ⟨z1, z2⟩ := z; omega
      have offb : ∀ q, o' ≤ q → q < o' + 46 → ¬ bl (o + 6) 40 q := fun q h1 h2 z => by obtain ⟨z1, z2⟩ := z; omega
      have x1 : gI w1 101 o' 0 = nI (aN A) := (f1.2.2.1 _ _ _ (offb _ (by omega) (by omega))).trans n1'
      have x2 : gR w1 100 o 0 = o + 1 := (f1.2.2.2 _ _ _ (off6 _ (by omega))).trans r1
      have x3 : gR w1 100 o' 0 = o' + 1 := (f1.2.2.2 _ _ _ (offb _ (by omega) (by omega))).trans r1'
      have x4 : gR w1 604 (o + 1) k = tk w o k := f1.2.2.2 _ _ _ (off6 _ (by omega))
      have x5 : gR w1 604 (o' + 1) k = tk w o' k := f1.2.2.2 _ _ _ (offb _ (by omega) (by omega))
      obtain ⟨b1, b2, b3⟩ := hs.tkt (t := k) (by omega)
      obtain ⟨b1', b2', b3'⟩ := K.1.tkt (t := k) (by omega)
      have tk1 : tk w1 o k = tk w o k := x4
      have T1 : TS w1 (tk w o k) := by rw [← tk1]; exact (s1.tkt (t := k) (by omega)).1
      have T2 : TS w1 (tk w o' k) := b1'.fr f1 (fun q h1 h2 => offb q (by omega) (by omega))
      have R2 : TR w1 (tk w o' k) A k := (at9 k hk).fr f1 (fun q h1 h2 => offb q (by omega) (by omega))
      obtain ⟨w2, e2, f2, s2, g2⟩ := c_ttake T1 T2 R2 (hn.2.2 k hk) (by omega)
      refine ⟨(nI k + 1, w2), ?_, nI_1 k, f1.tr (f2.mono (fun a z => by obtain ⟨z1, z2⟩ := z; exact ⟨by omega, by omega⟩)), ?_, fun t ht => ?_⟩
      · show fg _ _ _ = _
        refine (fg_t k1').trans ?_
        show (if gI w1 101 o' 0 ≤ nI k then _ else _) = _
        rw [x1, if_neg c1]
        refine (fg_t k1).trans ?_
        rw [x2, x3, e1, x4, x5]
        refine (fg_t k2).trans ?_
        refine (fg_t (by rw [l1]; exact ix_ok2 (by omega) (by decide))).trans ?_
        refine (fg_t k2').trans ?_
        refine (fg_t (by rw [l1']; exact ix_ok2 (by omega) (by decide))).trans ?_
        refine (fg_t b1.1).trans ?_
        exact ob e2 rfl
      · exact s1.tick (t := k) (by omega) (by rw [tk1]; exact f2) (by rw [tk1]; exact s2)
      · by_cases c : t = k
        · rw [c]; exact g2
        · have hd2 := hs.inj (t := t) (t' := k) (by omega) (by omega) c
          exact (g1 t (by omega)).fr f2 (fun q h1 h2 z => by obtain ⟨z1, z2⟩ := z; omega)
    · obtain ⟨z, w1⟩ := s
      obtain ⟨rfl, f1, s1, g1⟩ := hI
      have x1 : gI w1 101 o' 0 = nI (aN A) := (f1.2.2.1 _ _ _ (fun z => by obtain ⟨z1, z2⟩ := z; omega)).trans n1'
      refine ⟨w1, ?_, f1, s1, g1⟩
      show fg _ _ _ = _
      refine (fg_t k1').trans ?_
      show (if gI w1 101 o' 0 ≤ nI (aN A) then _ else _) = _
      rw [x1, if_pos (nI_le (Nat.le_refl _) (by omega))]
  obtain ⟨wa, ea, fa, sa, ga⟩ := H1
  obtain ⟨ka1, ka2, la1, ka3, la2, ka4, la3, ra1, ra2, ra3, ra4, wsa, sta, -, -⟩ := id sa
  have offa : ∀ q, o' ≤ q → q < o' + 46 → ¬ bl (o + 6) 40 q := fun q h1 h2 z => by obtain ⟨z1, z2⟩ := z; omega
  have fb : Fr wa (sI wa 101 o 0 (A 0)) (bl o 6) := Fr.sI _ _ _ _ _ (bl_in (by omega) (by omega))
  have offb : ∀ q, o' ≤ q → q < o' + 46 → ¬ bl o 6 q := fun q h1 h2 z => by obtain ⟨z1, z2⟩ := z; omega
  have hw1 : WS (sI wa 101 o 0 (A 0)) (o + 2) := ⟨wsa.1, wsa.2.1, wsa.2.2.1, wsa.2.2.2.1, fun k hk => wsa.2.2.2.2 k hk⟩
  have hw2 : WS (sI wa 101 o 0 (A 0)) (o' + 2) := ((K.1.2.2.2.2.2.2.2.2.2.2.2.1).fr fa (offa _ (by omega) (by omega)) (offa _ (by omega) (by omega))).fr fb (offb _ (by omega) (by omega)) (offb _ (by omega) (by omega))
  have hr2 : WR (sI wa 101 o 0 (A 0)) (o' + 2) (A 10).toNatClampNeg (fun k => A (11 + k)) := (ad.fr fa (offa _ (by omega) (by omega)) (offa _ (by omega) (by omega))).fr fb (offb _ (by omega) (by omega)) (offb _ (by omega) (by omega))
  obtain ⟨wc, ec, fc, wsc, gc⟩ := c_wtake hw1 hw2 (by omega)
  have hrc := gc _ _ (hA.d).2 hr2
  have fc6 : Fr (sI wa 101 o 0 (A 0)) wc (bl o 6) := fc.mono (fun a z => by obtain ⟨z1, z2⟩ := z; exact ⟨by omega, by omega⟩)
  have kc : wc.1 = w.1 := fc.1.trans fa.1
  have lc : wc.2.1 = w.2.1 := fc.2.1.trans fa.2.1
  have nb : ∀ q, q = o ∨ q = o + 1 ∨ q = o + 4 ∨ q = o + 5 → ¬ bl (o + 2) 2 q := fun q h z => by obtain ⟨z1, z2⟩ := z; omega
  have na : ∀ q, q < o + 6 → ¬ bl (o + 6) 40 q := fun q h z => by obtain ⟨z1, z2⟩ := z; omega
  have rco : ∀ c q i, (q = o ∨ q = o + 1) → gR wc c q i = gR w c q i := fun c q i h => (fc.2.2.2 _ _ _ (nb q (by omega))).trans (fa.2.2.2 _ _ _ (na q (by omega)))
  have rco' : ∀ c q i, o' ≤ q → q < o' + 46 → gR wc c q i = gR w c q i := fun c q i h1 h2 => (fc6.2.2.2 _ _ _ (offb q h1 h2)).trans (fa.2.2.2 _ _ _ (offa q h1 h2))
  have ico' : ∀ c q i, o' ≤ q → q < o' + 46 → gI wc c q i = gI w c q i := fun c q i h1 h2 => (fc6.2.2.1 _ _ _ (offb q h1 h2)).trans ((fb.2.2.1 _ _ _ (offb q h1 h2)).trans (fa.2.2.1 _ _ _ (offa q h1 h2)))
  refine ⟨n5 (rW (rW wc 601 (o + 4) 3 (fun p => A (7 + p))) 602 (o + 5) 5 (fun p => if aShut A p = 0 then 1 else 0)) o (A 1) (A 2) (A 3) (A 4) (A 5), ?_, ?_, ?_, ?_⟩
  · unfold F_X1_take
    refine ob ea ?_
    refine (fg_t k1').trans ?_
    refine (fg_t k1).trans ?_
    rw [ra2]
    refine (fg_t sw.1).trans ?_
    have y1 : gI wa 101 o' 0 = A 0 := (fa.2.2.1 _ _ _ (offa _ (by omega) (by omega))).trans a1
    have y2 : gR wa 102 o' 0 = o' + 2 := (fa.2.2.2 _ _ _ (offa _ (by omega) (by omega))).trans r2'
    rw [y1, gR_sI, gR_sI, ra2, y2]
    refine ob ec ?_
    refine fLoop_bind (r := rW wc 601 (o + 4) 3 (fun p => A (7 + p))) (fun k => (nI k, rW wc 601 (o + 4) k (fun p => A (7 + p)))) 3 ?_ (fun k hk => ?_) ?_ ?_
    · rw [rW_0]
      rfl
    · have c1 : ¬ (3 : Int32) ≤ nI k := nI_ge (b := 3) hk (by decide)
      have e1 := nI_clamp (n := k) (by omega)
      show (if (3 : Int32) ≤ nI k then _ else _) = _
      rw [if_neg c1]
      show fg (w.1 (gR wc 103 o' 0) = 11) _ _ = _
      have z1 : gR wc 103 o' 0 = o' + 4 := (rco' _ _ _ (by omega) (by omega)).trans r3'
      have z2 : gR wc 103 o 0 = o + 4 := (rco _ _ _ (Or.inl rfl)).trans r3
      refine (fg_t (by rw [z1]; exact k3')).trans ?_
      refine (fg_t (by rw [gR_rW, z1, l2']; exact nI_in hk (by decide))).trans ?_
      refine (fg_t (by rw [gR_rW, z2]; exact k3)).trans ?_
      refine (fg_t (by rw [gR_rW, z2, l2]; exact nI_in hk (by decide))).trans ?_
      rw [gR_rW, gR_rW, z1, z2, e1, gI_rW, if_neg (fun z => by have := z.2.1; omega), ico' _ _ _ (by omega) (by omega), am k hk, rW_s wc 601 (o + 4) k (fun p => A (7 + p)), nI_1]
    · have c1 : (3 : Int32) ≤ nI 3 := by decide
      rw [if_pos c1]
    refine fLoop_bind (r := rW (rW wc 601 (o + 4) 3 (fun p => A (7 + p))) 602 (o + 5) 5 (fun p => if aShut A p = 0 then 1 else 0)) (fun k => (nI k, rW (rW wc 601 (o + 4) 3 (fun p => A (7 + p))) 602 (o + 5) k (fun p => if aShut A p = 0 then 1 else 0))) 5 ?_ (fun k hk => ?_) ?_ ?_
    · rw [rW_0]
      rfl
    · have c1 : ¬ (5 : Int32) ≤ nI k := nI_ge (b := 5) hk (by decide)
      have e1 := nI_clamp (n := k) (by omega)
      show (if (5 : Int32) ≤ nI k then _ else _) = _
      rw [if_neg c1]
      show fg (w.1 (gR wc 104 o' 0) = 12) _ _ = _
      have z1 : gR wc 104 o' 0 = o' + 5 := (rco' _ _ _ (by omega) (by omega)).trans r4'
      have z2 : gR wc 104 o 0 = o + 5 := (rco _ _ _ (Or.inl rfl)).trans r4
      refine (fg_t (by rw [z1]; exact k4')).trans ?_
      refine (fg_t (by rw [gR_rW, gR_rW, z1, l3']; exact nI_in hk (by decide))).trans ?_
      refine (fg_t (by rw [gR_rW, gR_rW, z2]; exact k4)).trans ?_
      refine (fg_t (by rw [gR_rW, gR_rW, z2, l3]; exact nI_in hk (by decide))).trans ?_
      have z3 : gI (rW (rW wc 601 (o + 4) 3 (fun p => A (7 + p))) 602 (o + 5) k (fun p => if aShut A p = 0 then 1 else 0)) 602 (o' + 5) k = if aShut A k = 0 then 1 else 0 := by
        rw [gI_rW, if_neg (fun z => by have := z.2.1; omega), gI_rW, if_neg (fun z => absurd z.1 (by decide)), ico' _ _ _ (by omega) (by omega), ap k hk]
      refine (fg_t (by rw [gR_rW, gR_rW, z1, e1, z3]; split; exact Or.inr rfl; exact Or.inl rfl)).trans ?_
      rw [gR_rW, gR_rW, gR_rW, gR_rW, z1, z2, e1, z3, rW_s _ 602 (o + 5) k (fun p => if aShut A p = 0 then 1 else 0), nI_1]
    · have c1 : (5 : Int32) ≤ nI 5 := by decide
      rw [if_pos c1]
    · have hne : ¬ o' = o := by omega
      have Q : ∀ c, gI (rW (rW wc 601 (o + 4) 3 (fun p => A (7 + p))) 602 (o + 5) 5 (fun p => if aShut A p = 0 then 1 else 0)) c o' 0 = gI w c o' 0 := fun c => by
        rw [gI_rW, if_neg (fun z => by have := z.2.1; omega), gI_rW, if_neg (fun z => by have := z.2.1; omega), ico' _ _ _ (by omega) (by omega)]
      generalize rW (rW wc 601 (o + 4) 3 (fun p => A (7 + p))) 602 (o + 5) 5 (fun p => if aShut A p = 0 then 1 else 0) = we at Q
      have x1 : gI we 105 o' 0 = A 1 := (Q 105).trans a2
      have x2 : gI (sI we 105 o 0 (A 1)) 106 o' 0 = A 2 := by rw [gI_sI, if_neg (fun z => hne z.2.1)]; exact (Q 106).trans a3
      have x3 : gI (sI (sI we 105 o 0 (A 1)) 106 o 0 (A 2)) 107 o' 0 = A 3 := by rw [gI_sI, if_neg (fun z => hne z.2.1), gI_sI, if_neg (fun z => hne z.2.1)]; exact (Q 107).trans a4
      have x4 : gI (sI (sI (sI we 105 o 0 (A 1)) 106 o 0 (A 2)) 107 o 0 (A 3)) 108 o' 0 = A 4 := by rw [gI_sI, if_neg (fun z => hne z.2.1), gI_sI, if_neg (fun z => hne z.2.1), gI_sI, if_neg (fun z => hne z.2.1)]; exact (Q 108).trans a5
      have x5 : gI (sI (sI (sI (sI we 105 o 0 (A 1)) 106 o 0 (A 2)) 107 o 0 (A 3)) 108 o 0 (A 4)) 109 o' 0 = A 5 := by rw [gI_sI, if_neg (fun z => hne z.2.1), gI_sI, if_neg (fun z => hne z.2.1), gI_sI, if_neg (fun z => hne z.2.1), gI_sI, if_neg (fun z => hne z.2.1)]; exact (Q 109).trans a6
      rw [x1, x2, x3, x4, x5]
      rfl
  · have f4 : Fr wc (rW wc 601 (o + 4) 3 (fun p => A (7 + p))) (bl o 46) := Fr.rW _ _ _ _ _ (bl_in (by omega) (by omega))
    have f5 : Fr (rW wc 601 (o + 4) 3 (fun p => A (7 + p))) (rW (rW wc 601 (o + 4) 3 (fun p => A (7 + p))) 602 (o + 5) 5 (fun p => if aShut A p = 0 then 1 else 0)) (bl o 46) := Fr.rW _ _ _ _ _ (bl_in (by omega) (by omega))
    have M (lo n : Nat) (h1 : o ≤ lo) (h2 : lo + n ≤ o + 46) : ∀ a, bl lo n a → bl o 46 a := fun a z => by obtain ⟨z1, z2⟩ := z; exact ⟨by omega, by omega⟩
    exact (((((fa.mono (M _ _ (by omega) (by omega))).tr (fb.mono (M _ _ (by omega) (by omega)))).tr (fc.mono (M _ _ (by omega) (by omega)))).tr f4).tr f5).tr (n5_fr _ _ _ _ _ _ _ (bl_in (by omega) (by omega)))
  · refine hs.again kc lc (fun c i => rco c o i (Or.inl rfl)) (fun c i => rco c (o + 1) i (Or.inr rfl)) ?_ (fun j hj => ?_)
    · exact ⟨wsc.1, wsc.2.1, wsc.2.2.1, wsc.2.2.2.1, fun k hk => by rw [n5_6, gI_rW, if_neg (fun z => absurd z.1 (by decide)), gI_rW, if_neg (fun z => absurd z.1 (by decide))]; exact wsc.2.2.2.2 k hk⟩
    · have f4 : Fr wc (rW wc 601 (o + 4) 3 (fun p => A (7 + p))) (bl o 6) := Fr.rW _ _ _ _ _ (bl_in (by omega) (by omega))
      have f5 : Fr (rW wc 601 (o + 4) 3 (fun p => A (7 + p))) (rW (rW wc 601 (o + 4) 3 (fun p => A (7 + p))) 602 (o + 5) 5 (fun p => if aShut A p = 0 then 1 else 0)) (bl o 6) := Fr.rW _ _ _ _ _ (bl_in (by omega) (by omega))
      exact (sta j hj).fr (((fb.tr fc6).tr f4).tr (f5.tr (n5_fr _ _ _ _ _ _ _ (bl_in (by omega) (by omega))))) (fun q h1 h2 z => by obtain ⟨z1, z2⟩ := z; omega)
  · have f4 : Fr wc (rW wc 601 (o + 4) 3 (fun p => A (7 + p))) (bl o 6) := Fr.rW _ _ _ _ _ (bl_in (by omega) (by omega))
    have f5 : Fr (rW wc 601 (o + 4) 3 (fun p => A (7 + p))) (rW (rW wc 601 (o + 4) 3 (fun p => A (7 + p))) 602 (o + 5) 5 (fun p => if aShut A p = 0 then 1 else 0)) (bl o 6) := Fr.rW _ _ _ _ _ (bl_in (by omega) (by omega))
    have fall : Fr wa (n5 (rW (rW wc 601 (o + 4) 3 (fun p => A (7 + p))) 602 (o + 5) 5 (fun p => if aShut A p = 0 then 1 else 0)) o (A 1) (A 2) (A 3) (A 4) (A 5)) (bl o 6) := ((fb.tr fc6).tr f4).tr (f5.tr (n5_fr _ _ _ _ _ _ _ (bl_in (by omega) (by omega))))
    obtain ⟨g1, g2, g3, g4, g5, g6⟩ := n5_g (rW (rW wc 601 (o + 4) 3 (fun p => A (7 + p))) 602 (o + 5) 5 (fun p => if aShut A p = 0 then 1 else 0)) o (A 1) (A 2) (A 3) (A 4) (A 5)
    have n4 : ∀ c q i, ¬ q = o → gI (n5 (rW (rW wc 601 (o + 4) 3 (fun p => A (7 + p))) 602 (o + 5) 5 (fun p => if aShut A p = 0 then 1 else 0)) o (A 1) (A 2) (A 3) (A 4) (A 5)) c q i = gI (rW (rW wc 601 (o + 4) 3 (fun p => A (7 + p))) 602 (o + 5) 5 (fun p => if aShut A p = 0 then 1 else 0)) c q i := fun c q i h => (n5_fr _ _ _ _ _ _ _ (P := fun a => a = o) rfl).2.2.1 _ _ _ h
    refine ⟨?_, g1, g2, g3, g4, g5, fun p hp => ?_, fun p hp => ?_, ?_, fun t ht => ?_⟩
    · rw [g6, gI_rW, if_neg (fun z => by have := z.2.1; omega), gI_rW, if_neg (fun z => by have := z.2.1; omega), fc.2.2.1 _ _ _ (nb o (Or.inl rfl)), gI_s]
    · rw [n4 _ _ _ (by omega), gI_rW, if_neg (fun z => by have := z.2.1; omega), gI_rW, if_pos ⟨rfl, rfl, hp⟩]
    · rw [n4 _ _ _ (by omega), gI_rW, if_pos ⟨rfl, rfl, hp⟩]
    · refine ⟨?_, fun k hk => ?_⟩
      · rw [n4 _ _ _ (by omega), gI_rW, if_neg (fun z => by have := z.2.1; omega), gI_rW, if_neg (fun z => by have := z.2.1; omega)]
        exact hrc.1
      · rw [n4 _ _ _ (by omega), gI_rW, if_neg (fun z => by have := z.2.1; omega), gI_rW, if_neg (fun z => by have := z.2.1; omega)]
        exact hrc.2 k hk
    · obtain ⟨b1, b2, b3⟩ := hs.tkt (t := t) (by omega)
      have : tk (n5 (rW (rW wc 601 (o + 4) 3 (fun p => A (7 + p))) 602 (o + 5) 5 (fun p => if aShut A p = 0 then 1 else 0)) o (A 1) (A 2) (A 3) (A 4) (A 5)) o t = tk w o t := rco 604 (o + 1) t (Or.inr rfl)
      rw [this]
      exact (ga t ht).fr fall (fun q h1 h2 z => by obtain ⟨z1, z2⟩ := z; omega)
