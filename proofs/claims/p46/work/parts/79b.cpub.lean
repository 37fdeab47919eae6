/-! The class: a public act -/
/-- the class at x is the office A, with a past of n, and a saved office if sv is 1 -/
def CR (w : FW) (x : Nat) (A : Nat → Int32) (n : Nat) (H : Nat → Int32) (sv : Int32) (S : Nat → Int32) : Prop :=
  CI w x ∧ OR w (OFF w x 0) A ∧ WA A ∧ gI w 405 x 0 = nI n ∧ n ≤ 8 ∧ (∀ i, i < n → OR w (OFF w x (3 + i)) (fun k => H (177 * i + k)) ∧ WA (fun k => H (177 * i + k))) ∧ gI w 403 x 0 = sv ∧ (sv = 0 ∨ sv = 1) ∧ (sv = 1 → OR w (x + 93) S ∧ WA S)
/-- the numbers of the class's own, its buffer and its line stay -/
def KP (w w' : FW) (x : Nat) : Prop := (∀ c, ¬ c = 405 → gI w' c x 0 = gI w c x 0) ∧ (∀ a, a = x + 142 ∨ a = x + 143 → ∀ i, gI w' 600 a i = gI w 600 a i) ∧ w'.1 = w.1 ∧ w'.2.1 = w.2.1 ∧ (∀ c a i, x + 512 ≤ a → gI w' c a i = gI w c a i) ∧ ∀ c a i, x + 512 ≤ a → gR w' c a i = gR w c a i
theorem KP.rf (w : FW) (x : Nat) : KP w w x := ⟨fun _ _ => rfl, fun _ _ _ => rfl, rfl, rfl, fun _ _ _ _ => rfl, fun _ _ _ _ => rfl⟩
theorem KP.tr {w w' w'' : FW} {x : Nat} (h : KP w w' x) (h' : KP w' w'' x) : KP w w'' x := ⟨fun c hc => (h'.1 c hc).trans (h.1 c hc), fun a ha i => (h'.2.1 a ha i).trans (h.2.1 a ha i), h'.2.2.1.trans h.2.2.1, h'.2.2.2.1.trans h.2.2.2.1, fun c a i ha => (h'.2.2.2.2.1 c a i ha).trans (h.2.2.2.2.1 c a i ha), fun c a i ha => (h'.2.2.2.2.2 c a i ha).trans (h.2.2.2.2.2 c a i ha)⟩
theorem KP.fr {w w' : FW} {x o : Nat} (hf : Fr w w' (bl o 46)) (h1 : x < o) (h2 : o + 46 ≤ x + 139 ∨ x + 144 ≤ o) (h3 : o + 46 ≤ x + 512) : KP w w' x :=
  ⟨fun c _ => hf.2.2.1 _ _ _ (fun z => by obtain ⟨z1, z2⟩ := z; omega), fun a ha i => hf.2.2.1 _ _ _ (fun z => by obtain ⟨z1, z2⟩ := z; omega), hf.1, hf.2.1, fun c a i ha => hf.2.2.1 _ _ _ (fun z => by obtain ⟨z1, z2⟩ := z; omega), fun c a i ha => hf.2.2.2 _ _ _ (fun z => by obtain ⟨z1, z2⟩ := z; omega)⟩
theorem CR.K {w : FW} {x n : Nat} {A H S : Nat → Int32} {sv : Int32} (C : CR w x A n H sv S) : KO w (OFF w x 0) A := ⟨(C.1.off (j := 0) (by omega)).1, C.2.1, C.2.2.1⟩
theorem CR.X {w : FW} {x n : Nat} {A H S : Nat → Int32} {sv : Int32} (C : CR w x A n H sv S) : XO w x (OFF w x 0) A := ⟨C.1.1, rfl, C.K⟩
theorem WA.n8 {A : Nat → Int32} (hA : WA A) : aN A ≤ 8 := hA.n.2.1
/-- what is behind the class's cells is changed -/
theorem CR.ref {w w' : FW} {x n : Nat} {A H S : Nat → Int32} {sv : Int32} (C : CR w x A n H sv S) (hf : Fr w w' (fun a => x + 512 ≤ a)) : CR w' x A n H sv S := by
  obtain ⟨ci, c1, c2, c3, c4, c5, c6, c7, c8⟩ := C
  obtain ⟨a1, a2, a3, a4, a5, a6, a7, a8, a9, a10, a11, a12, a13, h1, h2, h3⟩ := id ci
  have R : ∀ c a i, a < x + 512 → gR w' c a i = gR w c a i := fun c a i h => hf.2.2.2 _ _ _ (by omega)
  have eo : ∀ k, OFF w' x k = OFF w x k := fun k => by
    unfold OFF
    rw [R _ x _ (by omega), R _ x _ (by omega), R _ (x + 139) _ (by omega)]
  have cN : CI w' x := ⟨by rw [hf.1]; exact a1, by rw [R _ _ _ (by omega)]; exact a2, by rw [R _ _ _ (by omega)]; exact a3, by rw [hf.1]; exact a4, by rw [hf.2.1]; exact a5, by rw [R _ _ _ (by omega)]; exact a6, a7.fr hf (by omega) (by omega), by rw [R _ _ _ (by omega)]; exact a8, by rw [hf.1]; exact a9, by rw [hf.2.1]; exact a10, by rw [R _ _ _ (by omega)]; exact a11, by rw [hf.1]; exact a12, by rw [hf.2.1]; exact a13, fun i hi => (h1 i hi).fr hf (fun q q1 q2 => by have := bs_r x i hi; omega), fun k hk => by rw [eo]; exact h2 k hk, fun k l hk hl => by rw [eo, eo]; exact h3 k l hk hl⟩
  have keep : ∀ j A', j < 11 → OR w (OFF w x j) A' → WA A' → OR w' (OFF w x j) A' := fun j A' hj hr hA => hr.fr (ci.off hj).1 hA.n8 hf (fun q q1 q2 z => by have := ci.off hj; omega)
  refine ⟨cN, by rw [eo]; exact keep 0 A (by omega) c1 c2, c2, (hf.2.2.1 _ _ _ (by omega)).trans c3, c4, fun i hi => ?_, (hf.2.2.1 _ _ _ (by omega)).trans c6, c7, fun z => ⟨keep 2 S (by omega) (c8 z).1 (c8 z).2, (c8 z).2⟩⟩
  rw [eo]
  exact ⟨keep _ _ (by omega) (c5 i hi).1 (c5 i hi).2, (c5 i hi).2⟩
/-- a number of the class's own is changed -/
theorem CR.nm {w : FW} {x n : Nat} {A H S : Nat → Int32} {sv : Int32} (C : CR w x A n H sv S) {c : Nat} (v : Int32) (h1 : ¬ c = 405) (h2 : ¬ c = 403) (h3 : ¬ c = 600) : CR (sI w c x 0 v) x A n H sv S := by
  obtain ⟨ci, c1, c2, c3, c4, c5, c6, c7, c8⟩ := C
  have hf : Fr w (sI w c x 0 v) (fun a => a = x) := Fr.sI _ _ _ _ _ rfl
  have cN := ci.num (w' := sI w c x 0 v) rfl rfl (fun _ _ _ => rfl) (fun a i _ => by rw [gI_sI, if_neg (fun z => h3 z.1.symm)])
  have o0 := ci.off (j := 0) (by omega)
  refine ⟨cN.1, ?_, c2, by rw [gI_sI, if_neg (fun z => h1 z.1.symm)]; exact c3, c4, fun i hi => ?_, by rw [gI_sI, if_neg (fun z => h2 z.1.symm)]; exact c6, c7, fun z => ?_⟩
  · rw [cN.2]
    exact c1.fr o0.1 c2.n8 hf (fun q q1 q2 => by omega)
  · rw [cN.2]
    have oi := ci.off (j := 3 + i) (by omega)
    exact ⟨(c5 i hi).1.fr oi.1 (c5 i hi).2.n8 hf (fun q q1 q2 => by omega), (c5 i hi).2⟩
  · have o2 := ci.off (j := 2) (by omega)
    exact ⟨(c8 z).1.fr o2.1 (c8 z).2.n8 hf (fun q q1 q2 => by omega), (c8 z).2⟩
/-- the spare office becomes what the office is -/
theorem c_begin {w : FW} {x n : Nat} {A H S : Nat → Int32} {sv : Int32} (C : CR w x A n H sv S) : ∃ w1, F_X4_begin x w = some w1 ∧ CR w1 x A n H sv S ∧ (∀ j, OFF w1 x j = OFF w x j) ∧ KP w w1 x ∧ OR w1 (OFF w x 1) A := by
  obtain ⟨ci, c1, c2, c3, c4, c5, c6, c7, c8⟩ := id C
  have o0 := ci.off (j := 0) (by omega)
  have o1 := ci.off (j := 1) (by omega)
  have d01 := ci.dj (j := 1) (k := 0) (by omega) (by omega) (by omega)
  obtain ⟨w1, e1, f1, s1, g1⟩ := c_otake o1.1 C.K d01
  have cN := ci.of (j := 1) (by omega) f1 s1
  refine ⟨w1, ?_, ?_, cN.2, KP.fr f1 (by omega) (by omega) (by omega), g1⟩
  · unfold F_X4_begin
    rw [fg_t ci.1]
    refine (fg_t o1.1.1).trans ?_
    exact ob e1 rfl
  · refine ⟨cN.1, ?_, c2, ?_, c4, fun i hi => ?_, ?_, c7, fun z => ?_⟩
    · rw [cN.2]
      exact c1.fr o0.1 c2.n8 f1 (fun q q1 q2 z => by obtain ⟨z1, z2⟩ := z; omega)
    · exact (f1.2.2.1 _ _ _ (fun z => by obtain ⟨z1, z2⟩ := z; omega)).trans c3
    · rw [cN.2]
      have oi := ci.off (j := 3 + i) (by omega)
      have di := ci.dj (j := 1) (k := 3 + i) (by omega) (by omega) (by omega)
      exact ⟨(c5 i hi).1.fr oi.1 (c5 i hi).2.n8 f1 (fun q q1 q2 z => by obtain ⟨z1, z2⟩ := z; omega), (c5 i hi).2⟩
    · exact (f1.2.2.1 _ _ _ (fun z => by obtain ⟨z1, z2⟩ := z; omega)).trans c6
    · have o2 := ci.off (j := 2) (by omega)
      have d2 := ci.dj (j := 1) (k := 2) (by omega) (by omega) (by omega)
      exact ⟨(c8 z).1.fr o2.1 (c8 z).2.n8 f1 (fun q q1 q2 y => by obtain ⟨y1, y2⟩ := y; change x + 93 ≤ q at q1; change q < x + 93 + 46 at q2; change OFF w x 1 + 46 ≤ x + 93 ∨ x + 93 + 46 ≤ OFF w x 1 at d2; omega), (c8 z).2⟩
/-- the office is changed: the rest stays -/
theorem CR.act {w w' : FW} {x n : Nat} {A A' H S : Nat → Int32} {sv : Int32} (C : CR w x A n H sv S) (f1 : Fr w w' (bl (OFF w x 0) 46)) (s1 : OS w' (OFF w x 0)) (g1 : OR w' (OFF w x 0) A') (hA : WA A') : CR w' x A' n H sv S ∧ (∀ j, OFF w' x j = OFF w x j) ∧ KP w w' x ∧ ∀ B, OR w (OFF w x 1) B → WA B → OR w' (OFF w x 1) B := by
  obtain ⟨ci, c1, c2, c3, c4, c5, c6, c7, c8⟩ := id C
  have o0 := ci.off (j := 0) (by omega)
  have o1 := ci.off (j := 1) (by omega)
  have d01 := ci.dj (j := 0) (k := 1) (by omega) (by omega) (by omega)
  have cN := ci.of (j := 0) (by omega) f1 s1
  refine ⟨⟨cN.1, ?_, hA, ?_, c4, fun i hi => ?_, ?_, c7, fun z => ?_⟩, cN.2, KP.fr f1 (by omega) (by omega) (by omega), fun B hB hW => hB.fr o1.1 hW.n8 f1 (fun q q1 q2 z => by obtain ⟨z1, z2⟩ := z; omega)⟩
  · rw [cN.2]
    exact g1
  · exact (f1.2.2.1 _ _ _ (fun z => by obtain ⟨z1, z2⟩ := z; omega)).trans c3
  · rw [cN.2]
    have oi := ci.off (j := 3 + i) (by omega)
    have di := ci.dj (j := 0) (k := 3 + i) (by omega) (by omega) (by omega)
    exact ⟨(c5 i hi).1.fr oi.1 (c5 i hi).2.n8 f1 (fun q q1 q2 z => by obtain ⟨z1, z2⟩ := z; omega), (c5 i hi).2⟩
  · exact (f1.2.2.1 _ _ _ (fun z => by obtain ⟨z1, z2⟩ := z; omega)).trans c6
  · have o2 := ci.off (j := 2) (by omega)
    have d2 := ci.dj (j := 0) (k := 2) (by omega) (by omega) (by omega)
    exact ⟨(c8 z).1.fr o2.1 (c8 z).2.n8 f1 (fun q q1 q2 y => by obtain ⟨y1, y2⟩ := y; change x + 93 ≤ q at q1; change q < x + 93 + 46 at q2; change OFF w x 0 + 46 ≤ x + 93 ∨ x + 93 + 46 ≤ OFF w x 0 at d2; omega), (c8 z).2⟩
/-- what the spare office holds is pushed on the past -/
theorem c_push {w : FW} {x n : Nat} {A B F H S : Nat → Int32} {sv : Int32} (C : CR w x A n H sv S) (hB : OR w (OFF w x 1) B) (hW : WA B) (hF : ∀ k, k < 177 → F k = B k) : ∃ w', F_X4_remember x w = some w' ∧ CR w' x A (if n = 8 then 8 else n + 1) (hPush n F H) sv S ∧ KP w w' x := by
  obtain ⟨ci, c1, c2, c3, c4, c5, c6, c7, c8⟩ := id C
  obtain ⟨w', e, k, l, r, g, g5, ho⟩ := c_remember ci c3 c4
  have hp : ∀ j, j < 11 → pI n j < 11 := fun j hj => by unfold pI; split <;> (try split) <;> (try split) <;> (try split) <;> omega
  have hi : ∀ j m, j < 11 → m < 11 → pI n j = pI n m → j = m := fun j m hj hm => by
    unfold pI
    intro h
    split at h
    · split at h <;> split at h <;> (try split at h) <;> (try split at h) <;> omega
    · split at h <;> split at h <;> (try split at h) <;> (try split at h) <;> (try split at h) <;> (try split at h) <;> omega
  have cN := ci.perm (pI n) k l r (fun a i => g 600 a i (by omega)) hp hi ho
  have hf : Fr w w' (fun a => a = x ∨ a = x + 139) := ⟨k, l, fun c a i h => g c a i (fun z => h (Or.inl z.2)), fun c a i h => r c a i (fun z => h (Or.inl z.2)) (fun z => h (Or.inr z.2))⟩
  have keep : ∀ j A', j < 11 → OR w (OFF w x j) A' → WA A' → OR w' (OFF w x j) A' := fun j A' hj hr hA => hr.fr (ci.off hj).1 hA.n8 hf (fun q q1 q2 z => by have := ci.off hj; omega)
  refine ⟨w', e, ⟨cN, ?_, c2, g5, by split <;> omega, fun i hi9 => ?_, ?_, c7, fun z => ?_⟩, fun c hc => g c x 0 (fun z => hc z.1), fun a ha i => g 600 a i (by omega), k, l, fun c a i ha => g c a i (by omega), fun c a i ha => r c a i (by omega) (by omega)⟩
  · rw [ho 0 (by omega), show pI n 0 = 0 by unfold pI; split; (rw [if_neg (by omega), if_neg (by omega)]); (rw [if_neg (by omega), if_pos (by omega)])]
    exact keep 0 A (by omega) c1 c2
  · by_cases hn : n = 8
    · rw [if_pos hn] at hi9
      subst hn
      by_cases i7 : i = 7
      · subst i7
        rw [ho 10 (by omega), show pI 8 10 = 1 from rfl]
        have ec : ∀ q, q < 177 → (fun q => hPush 8 F H (177 * 7 + q)) q = B q := fun q hq => by
          show hPush 8 F H (177 * 7 + q) = B q
          unfold hPush
          rw [if_pos rfl, if_neg (by omega), if_pos (by omega), show 177 * 7 + q - 1239 = q by omega, hF q hq]
        exact ⟨(keep 1 B (by omega) hB hW).cg hW ec, hW.cg ec⟩
      · rw [ho (3 + i) (by omega), show pI 8 (3 + i) = 3 + (i + 1) by unfold pI; rw [if_neg (by omega), if_neg (by omega), if_neg (by omega), if_neg (by omega)]; omega]
        have h5 := c5 (i + 1) (by omega)
        have ec : ∀ q, q < 177 → (fun q => hPush 8 F H (177 * i + q)) q = (fun q => H (177 * (i + 1) + q)) q := fun q hq => by
          show hPush 8 F H (177 * i + q) = H (177 * (i + 1) + q)
          unfold hPush
          rw [if_pos rfl, if_pos (by omega)]
          congr 1
          omega
        exact ⟨(keep _ _ (by omega) h5.1 h5.2).cg h5.2 ec, h5.2.cg ec⟩
    · rw [if_neg hn] at hi9
      by_cases i7 : i = n
      · subst i7
        rw [ho (3 + i) (by omega), show pI i (3 + i) = 1 by unfold pI; rw [if_pos (by omega), if_neg (by omega), if_pos rfl]]
        have ec : ∀ q, q < 177 → (fun q => hPush i F H (177 * i + q)) q = B q := fun q hq => by
          show hPush i F H (177 * i + q) = B q
          unfold hPush
          rw [if_neg hn, if_pos (by omega), show 177 * i + q - 177 * i = q by omega, hF q hq]
        exact ⟨(keep 1 B (by omega) hB hW).cg hW ec, hW.cg ec⟩
      · rw [ho (3 + i) (by omega), show pI n (3 + i) = 3 + i by unfold pI; rw [if_pos (by omega), if_neg (by omega), if_neg (by omega)]]
        have h5 := c5 i (by omega)
        have ec : ∀ q, q < 177 → (fun q => hPush n F H (177 * i + q)) q = (fun q => H (177 * i + q)) q := fun q hq => by
          show hPush n F H (177 * i + q) = H (177 * i + q)
          unfold hPush
          rw [if_neg hn, if_neg (by omega)]
        exact ⟨(keep _ _ (by omega) h5.1 h5.2).cg h5.2 ec, h5.2.cg ec⟩
  · exact (g 403 x 0 (by omega)).trans c6
  · exact ⟨keep 2 S (by omega) (c8 z).1 (c8 z).2, (c8 z).2⟩
/-- behind a public act -/
def PB {α : Type} (w : FW) (x : Nat) (A : Nat → Int32) (n : Nat) (F H : Nat → Int32) (sv : Int32) (S : Nat → Int32) (k : Int32) (r : Out) (G : FW → Option ((α ⊕ Nat) × FW)) (out : Option ((α ⊕ Nat) × FW)) : Prop :=
  (r.1 = 0 ∧ ∃ w', out = G w' ∧ CR w' x r.2.2 (if n = 8 then 8 else n + 1) (hPush n F H) sv S ∧ KP w w' x) ∨
  (0 < r.1 ∧ ∃ w1, CR w1 x A n H sv S ∧ KP w w1 x ∧ out = some (.inr 4, sI (sI w1 411 x 0 r.1) 412 x 0 r.2.1)) ∨
  (r.1 = -1 ∧ ∃ w1, CR w1 x A n H sv S ∧ KP w w1 x ∧ out = some (.inr (if k = 1 then 2 else 1), w1)) ∨
  (r.1 = -2 ∧ ∃ w1, CR w1 x A n H sv S ∧ KP w w1 x ∧ out = some (.inr 1, w1))
theorem c_pub {α : Type} {w : FW} {x n : Nat} {A F H S : Nat → Int32} {sv : Int32} (C : CR w x A n H sv S) (hF : ∀ k, k < 177 → F k = A k) {tryF : FW → Option (Int32 × FW)} {k : Int32} {r : Out} (hk : k = 1 ∨ k = 2) (ht : ∀ w1, CI w1 x → XO w1 x (OFF w1 x 0) A → w1.1 = w.1 → CA w1 x (OFF w1 x 0) k r (tryF w1)) (hg : WA r.2.2) (G : FW → Option ((α ⊕ Nat) × FW)) :
    PB w x A n F H sv S k r G ((F_X4_begin x w).bind (fun r1 => (tryF r1).bind (fun r5 => (F_X4_settle x r5.1 r5.2).bind (fun r8 => fse r8.1 (fun _ => G r8.2) (fun e => some (.inr e, r8.2)))))) := by
  obtain ⟨w1, e1, C1, ho, K1, g1⟩ := c_begin C
  rw [e1, Option.bind_some]
  rcases ht w1 C1.1 C1.X K1.2.2.1 with ⟨h0, w2, e2, f2, s2, g2⟩ | ⟨h0, e2⟩ | ⟨h0, e2⟩ | ⟨h0, e2⟩
  · obtain ⟨C2, ho2, K2, g3⟩ := C1.act f2 s2 g2 hg
    rw [← ho 1] at g1
    have g4 := g3 A g1 C.2.2.1
    rw [← ho2 1] at g4
    obtain ⟨w3, e3, C3, K3⟩ := c_push C2 g4 C.2.2.1 hF
    refine Or.inl ⟨h0, w3, ?_, C3, (K1.tr K2).tr K3⟩
    rw [e2, Option.bind_some]
    unfold F_X4_settle
    rw [if_neg (show ¬ (0 : Int32) = 1 by decide), if_neg (show ¬ (0 : Int32) = 2 by decide), if_neg (show ¬ (0 : Int32) = 3 by decide), fg_t C2.1.1, e3, Option.bind_some, Option.bind_some]
    rfl
  · refine Or.inr (Or.inl ⟨h0, w1, C1, K1, ?_⟩)
    rw [e2, Option.bind_some]
    unfold F_X4_settle
    rw [if_neg (show ¬ (3 : Int32) = 1 by decide), if_neg (show ¬ (3 : Int32) = 2 by decide), if_pos rfl, Option.bind_some]
    rfl
  · refine Or.inr (Or.inr (Or.inl ⟨h0, w1, C1, K1, ?_⟩))
    rw [e2, Option.bind_some]
    unfold F_X4_settle
    rcases hk with rfl | rfl
    · rw [if_pos rfl, Option.bind_some]
      rfl
    · rw [if_neg (show ¬ (2 : Int32) = 1 by decide), if_pos rfl, Option.bind_some]
      rfl
  · refine Or.inr (Or.inr (Or.inr ⟨h0, w1, C1, K1, ?_⟩))
    rw [e2, Option.bind_some]
    unfold F_X4_settle
    rw [if_neg (show ¬ (2 : Int32) = 1 by decide), if_pos rfl, Option.bind_some]
    rfl
