/-! What an order does -/
def hN (f : Nat → Int32) (p : Nat) : Nat := if f (p + 2) = 114 then 1 else 0
theorem hN_2 (f : Nat → Int32) (p : Nat) : hN f p < 2 := by
  unfold hN
  split <;> omega
theorem hN_i (f : Nat → Int32) (p : Nat) : (if f (p + 2) = 114 then 1 else 0 : Int32) = nI (hN f p) := by
  unfold hN
  split <;> rfl
def wdG (f : Nat → Int32) (p q k : Nat) : Int32 := if k = 0 then nI (q - 7 - p) else f (p + k)
def sAct (f : Nat → Int32) (p q : Nat) (A : Nat → Int32) : Out :=
  if f p = 100 then sDay A else if f p = 99 then sPier (f (p + 1) - 48) 0 A else if f p = 111 then sPier (f (p + 1) - 48) 1 A else if f p = 116 then sTear (f (p + 1) - 48) A else if f p = 120 then sAway (f (p + 1) - 48) A else
  if f p = 102 then sLost (f (p + 1) - 48) (hN f p) 0 A else if f p = 103 then sRide (f (p + 1) - 48) (hN f p) A else if f p = 108 then sLost (f (p + 1) - 48) (hN f p) 1 A else if f p = 109 then sMood (f (p + 1) - 48) (f (q - 1) - 48) A else
  if f p = 112 then sPunch (f (p + 1) - 48) (hN f p) (f (q - 1) - 48) A else if f p = 119 then sWet (f (p + 1) - 48) (hN f p) (f (q - 1) - 48) A else
  sPrint (q - 7 - p) (f (q - 5) - 48) (f (q - 3) - 48) (f (q - 1) - 48) (wdG f p q) A
theorem sA_100 {f : Nat → Int32} {p q : Nat} {A : Nat → Int32} (h : f p = 100) : sAct f p q A = sDay A := by
  unfold sAct
  rw [if_pos h]
theorem sA_99 {f : Nat → Int32} {p q : Nat} {A : Nat → Int32} (h : f p = 99) : sAct f p q A = sPier (f (p + 1) - 48) 0 A := by
  unfold sAct
  rw [if_neg (show ¬ f p = 100 by rw [h]; decide), if_pos h]
theorem sA_111 {f : Nat → Int32} {p q : Nat} {A : Nat → Int32} (h : f p = 111) : sAct f p q A = sPier (f (p + 1) - 48) 1 A := by
  unfold sAct
  rw [if_neg (show ¬ f p = 100 by rw [h]; decide), if_neg (show ¬ f p = 99 by rw [h]; decide), if_pos h]
theorem sA_116 {f : Nat → Int32} {p q : Nat} {A : Nat → Int32} (h : f p = 116) : sAct f p q A = sTear (f (p + 1) - 48) A := by
  unfold sAct
  rw [if_neg (show ¬ f p = 100 by rw [h]; decide), if_neg (show ¬ f p = 99 by rw [h]; decide), if_neg (show ¬ f p = 111 by rw [h]; decide), if_pos h]
theorem sA_120 {f : Nat → Int32} {p q : Nat} {A : Nat → Int32} (h : f p = 120) : sAct f p q A = sAway (f (p + 1) - 48) A := by
  unfold sAct
  rw [if_neg (show ¬ f p = 100 by rw [h]; decide), if_neg (show ¬ f p = 99 by rw [h]; decide), if_neg (show ¬ f p = 111 by rw [h]; decide), if_neg (show ¬ f p = 116 by rw [h]; decide), if_pos h]
theorem sA_102 {f : Nat → Int32} {p q : Nat} {A : Nat → Int32} (h : f p = 102) : sAct f p q A = sLost (f (p + 1) - 48) (hN f p) 0 A := by
  unfold sAct
  rw [if_neg (show ¬ f p = 100 by rw [h]; decide), if_neg (show ¬ f p = 99 by rw [h]; decide), if_neg (show ¬ f p = 111 by rw [h]; decide), if_neg (show ¬ f p = 116 by rw [h]; decide), if_neg (show ¬ f p = 120 by rw [h]; decide), if_pos h]
theorem sA_103 {f : Nat → Int32} {p q : Nat} {A : Nat → Int32} (h : f p = 103) : sAct f p q A = sRide (f (p + 1) - 48) (hN f p) A := by
  unfold sAct
  rw [if_neg (show ¬ f p = 100 by rw [h]; decide), if_neg (show ¬ f p = 99 by rw [h]; decide), if_neg (show ¬ f p = 111 by rw [h]; decide), if_neg (show ¬ f p = 116 by rw [h]; decide), if_neg (show ¬ f p = 120 by rw [h]; decide), if_neg (show ¬ f p = 102 by rw [h]; decide), if_pos h]
theorem sA_108 {f : Nat → Int32} {p q : Nat} {A : Nat → Int32} (h : f p = 108) : sAct f p q A = sLost (f (p + 1) - 48) (hN f p) 1 A := by
  unfold sAct
  rw [if_neg (show ¬ f p = 100 by rw [h]; decide), if_neg (show ¬ f p = 99 by rw [h]; decide), if_neg (show ¬ f p = 111 by rw [h]; decide), if_neg (show ¬ f p = 116 by rw [h]; decide), if_neg (show ¬ f p = 120 by rw [h]; decide), if_neg (show ¬ f p = 102 by rw [h]; decide), if_neg (show ¬ f p = 103 by rw [h]; decide), if_pos h]
theorem sA_109 {f : Nat → Int32} {p q : Nat} {A : Nat → Int32} (h : f p = 109) : sAct f p q A = sMood (f (p + 1) - 48) (f (q - 1) - 48) A := by
  unfold sAct
  rw [if_neg (show ¬ f p = 100 by rw [h]; decide), if_neg (show ¬ f p = 99 by rw [h]; decide), if_neg (show ¬ f p = 111 by rw [h]; decide), if_neg (show ¬ f p = 116 by rw [h]; decide), if_neg (show ¬ f p = 120 by rw [h]; decide), if_neg (show ¬ f p = 102 by rw [h]; decide), if_neg (show ¬ f p = 103 by rw [h]; decide), if_neg (show ¬ f p = 108 by rw [h]; decide), if_pos h]
theorem sA_112 {f : Nat → Int32} {p q : Nat} {A : Nat → Int32} (h : f p = 112) : sAct f p q A = sPunch (f (p + 1) - 48) (hN f p) (f (q - 1) - 48) A := by
  unfold sAct
  rw [if_neg (show ¬ f p = 100 by rw [h]; decide), if_neg (show ¬ f p = 99 by rw [h]; decide), if_neg (show ¬ f p = 111 by rw [h]; decide), if_neg (show ¬ f p = 116 by rw [h]; decide), if_neg (show ¬ f p = 120 by rw [h]; decide), if_neg (show ¬ f p = 102 by rw [h]; decide), if_neg (show ¬ f p = 103 by rw [h]; decide), if_neg (show ¬ f p = 108 by rw [h]; decide), if_neg (show ¬ f p = 109 by rw [h]; decide), if_pos h]
theorem sA_119 {f : Nat → Int32} {p q : Nat} {A : Nat → Int32} (h : f p = 119) : sAct f p q A = sWet (f (p + 1) - 48) (hN f p) (f (q - 1) - 48) A := by
  unfold sAct
  rw [if_neg (show ¬ f p = 100 by rw [h]; decide), if_neg (show ¬ f p = 99 by rw [h]; decide), if_neg (show ¬ f p = 111 by rw [h]; decide), if_neg (show ¬ f p = 116 by rw [h]; decide), if_neg (show ¬ f p = 120 by rw [h]; decide), if_neg (show ¬ f p = 102 by rw [h]; decide), if_neg (show ¬ f p = 103 by rw [h]; decide), if_neg (show ¬ f p = 108 by rw [h]; decide), if_neg (show ¬ f p = 109 by rw [h]; decide), if_neg (show ¬ f p = 112 by rw [h]; decide), if_pos h]
theorem sA_110 {f : Nat → Int32} {p q : Nat} {A : Nat → Int32} (h : f p = 110) : sAct f p q A = sPrint (q - 7 - p) (f (q - 5) - 48) (f (q - 3) - 48) (f (q - 1) - 48) (wdG f p q) A := by
  unfold sAct
  rw [if_neg (show ¬ f p = 100 by rw [h]; decide), if_neg (show ¬ f p = 99 by rw [h]; decide), if_neg (show ¬ f p = 111 by rw [h]; decide), if_neg (show ¬ f p = 116 by rw [h]; decide), if_neg (show ¬ f p = 120 by rw [h]; decide), if_neg (show ¬ f p = 102 by rw [h]; decide), if_neg (show ¬ f p = 103 by rw [h]; decide), if_neg (show ¬ f p = 108 by rw [h]; decide), if_neg (show ¬ f p = 109 by rw [h]; decide), if_neg (show ¬ f p = 112 by rw [h]; decide), if_neg (show ¬ f p = 119 by rw [h]; decide)]
theorem md_t : ∀ a, a < 100 → ∀ d, d < 10 → frem (nI (a + 100 * d)) 100 = nI a ∧ nI (a + 100 * d) / 100 = nI d := by decide +kernel
section MDO
variable {w : FW} {M L : Nat} {fl : Nat → Int32} {ar : Nat → Nat → Int32}
theorem m_given (hB : MB w M) (hA : WA (ar 1)) {p g d : Nat} (hL : L ≤ 60) (hg : g = lf (ar 5) L (p + 1)) (hg1 : 1 ≤ g) (h58 : ar 5 (p + g + 1) = 58) (hp : p + g + 1 < L) (hd : d < 10) (x1 x2 : Int32) : ∃ g8, F_X5_printsGiven M x1 x2 (nI (p + 1) + 100 * nI d) (mW w M fl ar) = some ((sPrint g x1 x2 (nI d) (wdG (ar 5) p (p + g + 7)) (ar 1)).1, mW w M (oF fl (sPrint g x1 x2 (nI d) (wdG (ar 5) p (p + g + 7)) (ar 1))) (up (up ar 8 g8) 1 (sPrint g x1 x2 (nI d) (wdG (ar 5) p (p + g + 7)) (ar 1)).2.2)) := by
  obtain ⟨zk0, zk1, zk2, zk3, zk4, zk5, zk6, zk7, zk8, zl1, zl2, zl3, zl4, zl5, zl6, zl7, zl8, zr1, zr2, zr3, zr4, zr5, zr6, zr7, zr8⟩ := id hB
  obtain ⟨l1, l2, l3⟩ := lf_s (ar 5) L (p + 1)
  rw [← hg] at l1 l2 l3
  have hx3 : nI (p + 1) + 100 * nI d = nI (p + 1 + 100 * d) := by rw [show (100 : Int32) = nI 100 from rfl, nI_mul, nI_add]
  obtain ⟨m1, m2⟩ := md_t (p + 1) (by omega) d hd
  have g7 : w.1 (gR w 507 M 0) = 11 := by rw [zr5]; exact zk5
  have n7 : w.2.1 (gR w 507 M 0) = 60 := by rw [zr5]; exact zl5
  have g8 : w.1 (gR w 510 M 0) = 11 := by rw [zr8]; exact zk8
  have n8 : w.2.1 (gR w 510 M 0) = 7 := by rw [zr8]; exact zl8
  have hl1 := fLoop_for (σ := Int32) (ρ := Int32) (f := (fun s1 => (if 6 ≤ s1 then some (.inr s1) else fg ((mW w M fl ar).1 M = 6) inferInstance (fg ((mW w M fl ar).1 (gR (mW w M fl ar) 507 M 0) = 11) inferInstance (fg (¬ (((frem (nI (p + 1 + 100 * d)) 100) + s1) < 0 ∨ (mW w M fl ar).2.1 (gR (mW w M fl ar) 507 M 0) ≤ Int32.toNatClampNeg ((frem (nI (p + 1 + 100 * d)) 100) + s1))) inferInstance ((F_X5_isLetter (gI (mW w M fl ar) 601 (gR (mW w M fl ar) 507 M 0) (Int32.toNatClampNeg ((frem (nI (p + 1 + 100 * d)) 100) + s1))) (mW w M fl ar)).bind (fun r14 => (if r14 = 0 then some (.inr s1) else some (.inl (s1 + 1)))))))))) (fun k => nI k) g (r := nI g) (fun k hk => ?_) ?_
  · have hl2 := fLoop_for (σ := Int32 × FW) (ρ := FW) (f := (fun s18 => (if 7 ≤ s18.1 then some (.inr s18.2) else fg ((mW w M fl ar).1 M = 6) inferInstance ((if s18.1 ≤ 0 then fg ((mW w M fl ar).1 (gR s18.2 510 M 0) = 11) inferInstance (fg (¬ (s18.1 < 0 ∨ (mW w M fl ar).2.1 (gR s18.2 510 M 0) ≤ Int32.toNatClampNeg s18.1)) inferInstance (some (.inl ((s18.1 + 1), (sI s18.2 601 (gR s18.2 510 M 0) (Int32.toNatClampNeg s18.1) 0))))) else (if (nI g) < s18.1 then fg ((mW w M fl ar).1 (gR s18.2 510 M 0) = 11) inferInstance (fg (¬ (s18.1 < 0 ∨ (mW w M fl ar).2.1 (gR s18.2 510 M 0) ≤ Int32.toNatClampNeg s18.1)) inferInstance (some (.inl ((s18.1 + 1), (sI s18.2 601 (gR s18.2 510 M 0) (Int32.toNatClampNeg s18.1) 0))))) else fg ((mW w M fl ar).1 (gR s18.2 507 M 0) = 11) inferInstance (fg (¬ ((((frem (nI (p + 1 + 100 * d)) 100) + s18.1) - 1) < 0 ∨ (mW w M fl ar).2.1 (gR s18.2 507 M 0) ≤ Int32.toNatClampNeg (((frem (nI (p + 1 + 100 * d)) 100) + s18.1) - 1))) inferInstance (fg ((mW w M fl ar).1 (gR s18.2 510 M 0) = 11) inferInstance (fg (¬ (s18.1 < 0 ∨ (mW w M fl ar).2.1 (gR s18.2 510 M 0) ≤ Int32.toNatClampNeg s18.1)) inferInstance (some (.inl ((s18.1 + 1), (sI s18.2 601 (gR s18.2 510 M 0) (Int32.toNatClampNeg s18.1) (gI s18.2 601 (gR s18.2 507 M 0) (Int32.toNatClampNeg (((frem (nI (p + 1 + 100 * d)) 100) + s18.1) - 1)))))))))))))))) (fun k => (nI k, mW w M fl (up ar 8 (cp k (fun k => if k = 0 then 0 else if g < k then 0 else ar 5 (p + k)) (ar 8))))) 7 (r := mW w M fl (up ar 8 (cp 7 (fun k => if k = 0 then 0 else if g < k then 0 else ar 5 (p + k)) (ar 8)))) (fun k hk => ?_) ?_
    · refine ⟨up (cp 7 (fun k => if k = 0 then 0 else if g < k then 0 else ar 5 (p + k)) (ar 8)) 0 (nI g), ?_⟩
      unfold F_X5_printsGiven
      rw [hx3]
      refine ob hl1 ?_
      have hs : (nI 0, mW w M fl (up ar 8 (cp 0 (fun k => if k = 0 then 0 else if g < k then 0 else ar 5 (p + k)) (ar 8)))) = ((0 : Int32), mW w M fl ar) := by
        rw [cp_0, up_self]
        rfl
      rw [hs] at hl2
      refine ob hl2 ?_
      refine (fg_t zk0).trans ?_
      refine (fg_t g8).trans ?_
      refine (fg_t (by show ¬ ((0 : Int32) < 0 ∨ w.2.1 (gR w 510 M 0) ≤ _); rw [n8]; decide)).trans ?_
      rw [m2, mW_R, zr8, show Int32.toNatClampNeg 0 = 0 from rfl, mW_s8, up_s, up_up]
      have e1 : (up ar 8 (up (cp 7 (fun k => if k = 0 then 0 else if g < k then 0 else ar 5 (p + k)) (ar 8)) 0 (nI g))) 1 = ar 1 := up_n (by decide)
      have e8 : (up ar 8 (up (cp 7 (fun k => if k = 0 then 0 else if g < k then 0 else ar 5 (p + k)) (ar 8)) 0 (nI g))) 8 0 = nI g := by rw [up_s, up_s]
      have hp := m_prints (fl := fl) (ar := up ar 8 (up (cp 7 (fun k => if k = 0 then 0 else if g < k then 0 else ar 5 (p + k)) (ar 8)) 0 (nI g))) hB x1 x2 (nI d) (by rw [e1]; exact hA.n.1) (by rw [e1]; exact hA.n.2.1) e8 l1
      have ec : sPrint g x1 x2 (nI d) ((up ar 8 (up (cp 7 (fun k => if k = 0 then 0 else if g < k then 0 else ar 5 (p + k)) (ar 8)) 0 (nI g))) 8) ((up ar 8 (up (cp 7 (fun k => if k = 0 then 0 else if g < k then 0 else ar 5 (p + k)) (ar 8)) 0 (nI g))) 1) = sPrint g x1 x2 (nI d) (wdG (ar 5) p (p + g + 7)) (ar 1) := by
        rw [e1]
        refine sPrint_congr (fun i i1 i2 => ?_) ?_
        · rw [up_s, up_n (by omega), cp_l (by omega), if_neg (by omega), if_neg (by omega)]
          exact (if_neg (show ¬ i = 0 by omega)).symm
        · rw [e8]
          unfold wdG
          rw [if_pos rfl]
          exact congrArg nI (by omega)
      rw [ec] at hp
      refine ob hp ?_
      rfl
    · have c1 : ¬ (7 : Int32) ≤ nI k := nI_ge (b := 7) hk (by decide)
      have i8 : ¬ (nI k < 0 ∨ w.2.1 (gR w 510 M 0) ≤ (nI k).toNatClampNeg) := by
        rw [n8]
        exact nI_in hk (by decide)
      have es : ∀ v, v = (if k = 0 then 0 else if g < k then 0 else ar 5 (p + k)) → sI (mW w M fl (up ar 8 (cp k (fun k => if k = 0 then 0 else if g < k then 0 else ar 5 (p + k)) (ar 8)))) 601 (M + 8) k v = mW w M fl (up ar 8 (cp (k + 1) (fun k => if k = 0 then 0 else if g < k then 0 else ar 5 (p + k)) (ar 8))) := by
        intro v hv
        rw [mW_s8, up_s, up_up, hv, cp_s k (fun k => if k = 0 then 0 else if g < k then 0 else ar 5 (p + k)) (ar 8)]
      dsimp only
      rw [if_neg c1]
      refine (fg_t zk0).trans ?_
      by_cases k0 : k = 0
      · rw [if_pos (show nI k ≤ 0 by rw [k0]; decide)]
        refine (fg_t g8).trans ?_
        refine (fg_t i8).trans ?_
        rw [mW_R, zr8, nI_clamp (by omega), es 0 (by rw [if_pos k0]), nI_1]
      · rw [if_neg (show ¬ nI k ≤ 0 from fun z => k0 (by have := (nI_leI (a := k) (b := 0) (by omega) (by omega)).mp z; omega))]
        by_cases kg : g < k
        · rw [if_pos (show nI g < nI k from (nI_ltI (by omega) (by omega)).mpr kg)]
          refine (fg_t g8).trans ?_
          refine (fg_t i8).trans ?_
          rw [mW_R, zr8, nI_clamp (by omega), es 0 (by rw [if_neg k0, if_pos kg]), nI_1]
        · have e1 : frem (nI (p + 1 + 100 * d)) 100 + nI k - 1 = nI (p + k) := by
            rw [m1, nI_add, show p + 1 + k = (p + k) + 1 by omega, nI_pred]
          have hk2 := (l2 (k - 1) (by omega)).1
          rw [if_neg (show ¬ nI g < nI k from fun z => kg ((nI_ltI (by omega) (by omega)).mp z))]
          refine (fg_t g7).trans ?_
          refine (fg_t (by show ¬ (frem (nI (p + 1 + 100 * d)) 100 + nI k - 1 < 0 ∨ w.2.1 (gR w 507 M 0) ≤ _); rw [e1, n7]; exact nI_in (by omega) (by decide))).trans ?_
          refine (fg_t g8).trans ?_
          refine (fg_t i8).trans ?_
          rw [mW_R, mW_R, zr8, zr5, e1, nI_clamp (by omega), nI_clamp (by omega), mW_a5, up_n (by decide), es (ar 5 (p + k)) (by rw [if_neg k0, if_neg kg]), nI_1]
    · have c1 : (7 : Int32) ≤ nI 7 := by decide
      dsimp only
      rw [if_pos c1]
  · have c1 : ¬ (6 : Int32) ≤ nI k := nI_ge (b := 6) (by omega) (by decide)
    have e1 : frem (nI (p + 1 + 100 * d)) 100 + nI k = nI (p + 1 + k) := by rw [m1, nI_add]
    have hk2 := l2 k hk
    rw [if_neg c1]
    refine (fg_t zk0).trans ?_
    refine (fg_t g7).trans ?_
    refine (fg_t (by rw [e1]; show ¬ (nI (p + 1 + k) < 0 ∨ w.2.1 (gR w 507 M 0) ≤ _); rw [n7]; exact nI_in (by omega) (by decide))).trans ?_
    rw [mW_R, zr5, e1, nI_clamp (by omega), mW_a5, m_isLetter, Option.bind_some, if_neg (by rw [hk2.2]; decide), nI_1]
  · by_cases g6 : g = 6
    · rw [if_pos (show (6 : Int32) ≤ nI g by rw [g6]; decide)]
    · have c1 : ¬ (6 : Int32) ≤ nI g := nI_ge (b := 6) (by omega) (by decide)
      have e1 : frem (nI (p + 1 + 100 * d)) 100 + nI g = nI (p + 1 + g) := by rw [m1, nI_add]
      rw [if_neg c1]
      refine (fg_t zk0).trans ?_
      refine (fg_t g7).trans ?_
      refine (fg_t (by rw [e1]; show ¬ (nI (p + 1 + g) < 0 ∨ w.2.1 (gR w 507 M 0) ≤ _); rw [n7]; exact nI_in (by omega) (by decide))).trans ?_
      rw [mW_R, zr5, e1, nI_clamp (by omega), mW_a5, m_isLetter, Option.bind_some, show p + 1 + g = p + g + 1 by omega, h58, if_pos (show isLet 58 = 0 by decide)]
theorem does_head (hB : MB w M) {i : Nat} (hi : i ≤ 30) : F_X5_does M (nI i) (mW w M fl ar) = (if (ar 6 (4 * i)) = 99 then (F_X5_turnsPier M (ar 6 (4 * i + 1)) 0 (mW w M fl ar)).bind (fun r8 => some (r8.1, r8.2)) else (if (ar 6 (4 * i)) = 100 then (F_X5_passes M (mW w M fl ar)).bind (fun r12 => some (r12.1, r12.2)) else (if (ar 6 (4 * i)) = 101 then (F_X5_passes M (mW w M fl ar)).bind (fun r16 => some (r16.1, r16.2)) else (if (ar 6 (4 * i)) = 102 then (F_X5_goes M (ar 6 (4 * i + 1)) (ar 6 (4 * i + 2)) 0 (mW w M fl ar)).bind (fun r20 => some (r20.1, r20.2)) else (if (ar 6 (4 * i)) = 103 then (F_X5_rides M (ar 6 (4 * i + 1)) (ar 6 (4 * i + 2)) (mW w M fl ar)).bind (fun r24 => some (r24.1, r24.2)) else (if (ar 6 (4 * i)) = 104 then (F_X5_passes M (mW w M fl ar)).bind (fun r28 => some (r28.1, r28.2)) else (if (ar 6 (4 * i)) = 105 then (F_X5_passes M (mW w M fl ar)).bind (fun r32 => some (r32.1, r32.2)) else (if (ar 6 (4 * i)) = 106 then (F_X5_passes M (mW w M fl ar)).bind (fun r36 => some (r36.1, r36.2)) else (if (ar 6 (4 * i)) = 107 then (F_X5_passes M (mW w M fl ar)).bind (fun r40 => some (r40.1, r40.2)) else (if (ar 6 (4 * i)) = 108 then (F_X5_goes M (ar 6 (4 * i + 1)) (ar 6 (4 * i + 2)) 1 (mW w M fl ar)).bind (fun r44 => some (r44.1, r44.2)) else (if (ar 6 (4 * i)) = 109 then (F_X5_tellsMood M (ar 6 (4 * i + 1)) (ar 6 (4 * i + 2)) (mW w M fl ar)).bind (fun r48 => some (r48.1, r48.2)) else (if (ar 6 (4 * i)) = 110 then (F_X5_printsGiven M (ar 6 (4 * i + 1)) (ar 6 (4 * i + 2)) (ar 6 (4 * i + 3)) (mW w M fl ar)).bind (fun r52 => some (r52.1, r52.2)) else (if (ar 6 (4 * i)) = 111 then (F_X5_turnsPier M (ar 6 (4 * i + 1)) 1 (mW w M fl ar)).bind (fun r56 => some (r56.1, r56.2)) else (if (ar 6 (4 * i)) = 112 then (F_X5_punches M (ar 6 (4 * i + 1)) (ar 6 (4 * i + 2)) (ar 6 (4 * i + 3)) (mW w M fl ar)).bind (fun r60 => some (r60.1, r60.2)) else (if (ar 6 (4 * i)) = 113 then (F_X5_passes M (mW w M fl ar)).bind (fun r64 => some (r64.1, r64.2)) else (if (ar 6 (4 * i)) = 114 then (F_X5_passes M (mW w M fl ar)).bind (fun r68 => some (r68.1, r68.2)) else (if (ar 6 (4 * i)) = 115 then (F_X5_passes M (mW w M fl ar)).bind (fun r72 => some (r72.1, r72.2)) else (if (ar 6 (4 * i)) = 116 then (F_X5_tears M (ar 6 (4 * i + 1)) (mW w M fl ar)).bind (fun r76 => some (r76.1, r76.2)) else (if (ar 6 (4 * i)) = 117 then (F_X5_passes M (mW w M fl ar)).bind (fun r80 => some (r80.1, r80.2)) else (if (ar 6 (4 * i)) = 118 then (F_X5_passes M (mW w M fl ar)).bind (fun r84 => some (r84.1, r84.2)) else (if (ar 6 (4 * i)) = 119 then (F_X5_makesWet M (ar 6 (4 * i + 1)) (ar 6 (4 * i + 2)) (ar 6 (4 * i + 3)) (mW w M fl ar)).bind (fun r88 => some (r88.1, r88.2)) else (if (ar 6 (4 * i)) = 120 then (F_X5_throwsAway M (ar 6 (4 * i + 1)) (mW w M fl ar)).bind (fun r92 => some (r92.1, r92.2)) else (F_X5_passes M (mW w M fl ar)).bind (fun r95 => some (r95.1, r95.2)))))))))))))))))))))))) := by
  obtain ⟨zk0, zk1, zk2, zk3, zk4, zk5, zk6, zk7, zk8, zl1, zl2, zl3, zl4, zl5, zl6, zl7, zl8, zr1, zr2, zr3, zr4, zr5, zr6, zr7, zr8⟩ := id hB
  have g6 : w.1 (gR w 508 M 0) = 11 := by rw [zr6]; exact zk6
  have n6 : w.2.1 (gR w 508 M 0) = 240 := by rw [zr6]; exact zl6
  have e0 : 4 * nI i = nI (4 * i) := by rw [show (4 : Int32) = nI 4 from rfl, nI_mul]
  have e1 : 4 * nI i + 1 = nI (4 * i + 1) := e4j (k := 1)
  have e2 : 4 * nI i + 2 = nI (4 * i + 2) := e4j (k := 2)
  have e3 : 4 * nI i + 3 = nI (4 * i + 3) := e4j (k := 3)
  have t0 : gI (mW w M fl ar) 601 (gR (mW w M fl ar) 508 M 0) (Int32.toNatClampNeg (4 * nI i)) = ar 6 (4 * i) := by rw [mW_R, zr6, e0, nI_clamp (by omega), mW_a6]
  have t1 : gI (mW w M fl ar) 601 (gR (mW w M fl ar) 508 M 0) (Int32.toNatClampNeg (4 * nI i + 1)) = ar 6 (4 * i + 1) := by rw [mW_R, zr6, e1, nI_clamp (by omega), mW_a6]
  have t2 : gI (mW w M fl ar) 601 (gR (mW w M fl ar) 508 M 0) (Int32.toNatClampNeg (4 * nI i + 2)) = ar 6 (4 * i + 2) := by rw [mW_R, zr6, e2, nI_clamp (by omega), mW_a6]
  have t3 : gI (mW w M fl ar) 601 (gR (mW w M fl ar) 508 M 0) (Int32.toNatClampNeg (4 * nI i + 3)) = ar 6 (4 * i + 3) := by rw [mW_R, zr6, e3, nI_clamp (by omega), mW_a6]
  unfold F_X5_does
  refine (fg_t zk0).trans ?_
  refine (fg_t g6).trans ?_
  refine (fg_t (by rw [e1]; show ¬ (nI (4 * i + 1) < 0 ∨ w.2.1 (gR w 508 M 0) ≤ _); rw [n6]; exact nI_in (by omega) (by decide))).trans ?_
  refine (fg_t (by rw [e2]; show ¬ (nI (4 * i + 2) < 0 ∨ w.2.1 (gR w 508 M 0) ≤ _); rw [n6]; exact nI_in (by omega) (by decide))).trans ?_
  refine (fg_t (by rw [e3]; show ¬ (nI (4 * i + 3) < 0 ∨ w.2.1 (gR w 508 M 0) ≤ _); rw [n6]; exact nI_in (by omega) (by decide))).trans ?_
  refine (fg_t (by rw [e0]; show ¬ (nI (4 * i) < 0 ∨ w.2.1 (gR w 508 M 0) ≤ _); rw [n6]; exact nI_in (by omega) (by decide))).trans ?_
  rw [t0, t1, t2, t3]
theorem m_does (hB : MB w M) (hA : WA (ar 1)) {i p q : Nat} (hi : i ≤ 30) (hL : L ≤ 60) (hq : q ≤ L) (ho : OG (ar 5) L p q (ar 6) i) : ∃ g8, F_X5_does M (nI i) (mW w M fl ar) = some ((sAct (ar 5) p q (ar 1)).1, mW w M (oF fl (sAct (ar 5) p q (ar 1))) (up (up ar 8 g8) 1 (sAct (ar 5) p q (ar 1)).2.2)) := by
  obtain ⟨hn, h8, hT⟩ := hA.n
  have fin : ∀ {r : Out} {o : Option (Int32 × FW)}, sAct (ar 5) p q (ar 1) = r → o = some (mOut w M fl ar r) → ∃ g8, o.bind (fun r8 => some (r8.1, r8.2)) = some ((sAct (ar 5) p q (ar 1)).1, mW w M (oF fl (sAct (ar 5) p q (ar 1))) (up (up ar 8 g8) 1 (sAct (ar 5) p q (ar 1)).2.2)) := by
    intro r o e1 e2
    refine ⟨ar 8, ?_⟩
    rw [e1, e2, up_self]
    rfl
  rw [does_head hB hi]
  rcases ho with ⟨h, a0, hq9⟩ | ⟨h, a0, a1, hq9⟩ | ⟨h, a0, a1, a2, hq9⟩ | ⟨h, a0, a1, a2, hq9⟩ | ⟨h, a0, a1, a2, a3, hq9⟩ | ⟨h, a0, g, d, hg, hg1, hd, hdf, a1, a2, a3, h58, hq9⟩
  · rw [a0, if_neg (show ¬ (100 : Int32) = 99 by decide), if_pos rfl]
    exact fin (sA_100 h) (m_passes hB)
  · rcases h with h | h | h | h
    · rw [a0, h, if_pos rfl, a1]
      exact fin (sA_99 h) (m_turnsPier hB _ _)
    · rw [a0, h, if_neg (show ¬ (111 : Int32) = 99 by decide), if_neg (show ¬ (111 : Int32) = 100 by decide), if_neg (show ¬ (111 : Int32) = 101 by decide), if_neg (show ¬ (111 : Int32) = 102 by decide), if_neg (show ¬ (111 : Int32) = 103 by decide), if_neg (show ¬ (111 : Int32) = 104 by decide), if_neg (show ¬ (111 : Int32) = 105 by decide), if_neg (show ¬ (111 : Int32) = 106 by decide), if_neg (show ¬ (111 : Int32) = 107 by decide), if_neg (show ¬ (111 : Int32) = 108 by decide), if_neg (show ¬ (111 : Int32) = 109 by decide), if_neg (show ¬ (111 : Int32) = 110 by decide), if_pos rfl, a1]
      exact fin (sA_111 h) (m_turnsPier hB _ _)
    · rw [a0, h, if_neg (show ¬ (116 : Int32) = 99 by decide), if_neg (show ¬ (116 : Int32) = 100 by decide), if_neg (show ¬ (116 : Int32) = 101 by decide), if_neg (show ¬ (116 : Int32) = 102 by decide), if_neg (show ¬ (116 : Int32) = 103 by decide), if_neg (show ¬ (116 : Int32) = 104 by decide), if_neg (show ¬ (116 : Int32) = 105 by decide), if_neg (show ¬ (116 : Int32) = 106 by decide), if_neg (show ¬ (116 : Int32) = 107 by decide), if_neg (show ¬ (116 : Int32) = 108 by decide), if_neg (show ¬ (116 : Int32) = 109 by decide), if_neg (show ¬ (116 : Int32) = 110 by decide), if_neg (show ¬ (116 : Int32) = 111 by decide), if_neg (show ¬ (116 : Int32) = 112 by decide), if_neg (show ¬ (116 : Int32) = 113 by decide), if_neg (show ¬ (116 : Int32) = 114 by decide), if_neg (show ¬ (116 : Int32) = 115 by decide), if_pos rfl, a1]
      exact fin (sA_116 h) (m_tears hB _ hn h8)
    · rw [a0, h, if_neg (show ¬ (120 : Int32) = 99 by decide), if_neg (show ¬ (120 : Int32) = 100 by decide), if_neg (show ¬ (120 : Int32) = 101 by decide), if_neg (show ¬ (120 : Int32) = 102 by decide), if_neg (show ¬ (120 : Int32) = 103 by decide), if_neg (show ¬ (120 : Int32) = 104 by decide), if_neg (show ¬ (120 : Int32) = 105 by decide), if_neg (show ¬ (120 : Int32) = 106 by decide), if_neg (show ¬ (120 : Int32) = 107 by decide), if_neg (show ¬ (120 : Int32) = 108 by decide), if_neg (show ¬ (120 : Int32) = 109 by decide), if_neg (show ¬ (120 : Int32) = 110 by decide), if_neg (show ¬ (120 : Int32) = 111 by decide), if_neg (show ¬ (120 : Int32) = 112 by decide), if_neg (show ¬ (120 : Int32) = 113 by decide), if_neg (show ¬ (120 : Int32) = 114 by decide), if_neg (show ¬ (120 : Int32) = 115 by decide), if_neg (show ¬ (120 : Int32) = 116 by decide), if_neg (show ¬ (120 : Int32) = 117 by decide), if_neg (show ¬ (120 : Int32) = 118 by decide), if_neg (show ¬ (120 : Int32) = 119 by decide), if_pos rfl, a1]
      exact fin (sA_120 h) (m_throwsAway hB _ hn h8)
  · rw [hN_i] at a2
    rcases h with h | h | h
    · rw [a0, h, if_neg (show ¬ (102 : Int32) = 99 by decide), if_neg (show ¬ (102 : Int32) = 100 by decide), if_neg (show ¬ (102 : Int32) = 101 by decide), if_pos rfl, a1, a2]
      exact fin (sA_102 h) (m_goes hB _ (hN_2 _ _) _ hn h8)
    · rw [a0, h, if_neg (show ¬ (103 : Int32) = 99 by decide), if_neg (show ¬ (103 : Int32) = 100 by decide), if_neg (show ¬ (103 : Int32) = 101 by decide), if_neg (show ¬ (103 : Int32) = 102 by decide), if_pos rfl, a1, a2]
      exact fin (sA_103 h) (m_rides hB _ (hN_2 _ _) hn h8 hT)
    · rw [a0, h, if_neg (show ¬ (108 : Int32) = 99 by decide), if_neg (show ¬ (108 : Int32) = 100 by decide), if_neg (show ¬ (108 : Int32) = 101 by decide), if_neg (show ¬ (108 : Int32) = 102 by decide), if_neg (show ¬ (108 : Int32) = 103 by decide), if_neg (show ¬ (108 : Int32) = 104 by decide), if_neg (show ¬ (108 : Int32) = 105 by decide), if_neg (show ¬ (108 : Int32) = 106 by decide), if_neg (show ¬ (108 : Int32) = 107 by decide), if_pos rfl, a1, a2]
      exact fin (sA_108 h) (m_goes hB _ (hN_2 _ _) _ hn h8)
  · rw [a0, if_neg (show ¬ (109 : Int32) = 99 by decide), if_neg (show ¬ (109 : Int32) = 100 by decide), if_neg (show ¬ (109 : Int32) = 101 by decide), if_neg (show ¬ (109 : Int32) = 102 by decide), if_neg (show ¬ (109 : Int32) = 103 by decide), if_neg (show ¬ (109 : Int32) = 104 by decide), if_neg (show ¬ (109 : Int32) = 105 by decide), if_neg (show ¬ (109 : Int32) = 106 by decide), if_neg (show ¬ (109 : Int32) = 107 by decide), if_neg (show ¬ (109 : Int32) = 108 by decide), if_pos rfl, a1, a2]
    have e := sA_109 (q := q) (A := ar 1) h
    rw [show q - 1 = p + 3 by omega] at e
    exact fin e (m_tellsMood hB _ _)
  · rw [hN_i] at a2
    rcases h with h | h
    · rw [a0, h, if_neg (show ¬ (112 : Int32) = 99 by decide), if_neg (show ¬ (112 : Int32) = 100 by decide), if_neg (show ¬ (112 : Int32) = 101 by decide), if_neg (show ¬ (112 : Int32) = 102 by decide), if_neg (show ¬ (112 : Int32) = 103 by decide), if_neg (show ¬ (112 : Int32) = 104 by decide), if_neg (show ¬ (112 : Int32) = 105 by decide), if_neg (show ¬ (112 : Int32) = 106 by decide), if_neg (show ¬ (112 : Int32) = 107 by decide), if_neg (show ¬ (112 : Int32) = 108 by decide), if_neg (show ¬ (112 : Int32) = 109 by decide), if_neg (show ¬ (112 : Int32) = 110 by decide), if_neg (show ¬ (112 : Int32) = 111 by decide), if_pos rfl, a1, a2, a3]
      have e := sA_112 (q := q) (A := ar 1) h
      rw [show q - 1 = p + 4 by omega] at e
      exact fin e (m_punches hB _ (hN_2 _ _) _ hn h8 (fun t ht => (hT t ht).len))
    · rw [a0, h, if_neg (show ¬ (119 : Int32) = 99 by decide), if_neg (show ¬ (119 : Int32) = 100 by decide), if_neg (show ¬ (119 : Int32) = 101 by decide), if_neg (show ¬ (119 : Int32) = 102 by decide), if_neg (show ¬ (119 : Int32) = 103 by decide), if_neg (show ¬ (119 : Int32) = 104 by decide), if_neg (show ¬ (119 : Int32) = 105 by decide), if_neg (show ¬ (119 : Int32) = 106 by decide), if_neg (show ¬ (119 : Int32) = 107 by decide), if_neg (show ¬ (119 : Int32) = 108 by decide), if_neg (show ¬ (119 : Int32) = 109 by decide), if_neg (show ¬ (119 : Int32) = 110 by decide), if_neg (show ¬ (119 : Int32) = 111 by decide), if_neg (show ¬ (119 : Int32) = 112 by decide), if_neg (show ¬ (119 : Int32) = 113 by decide), if_neg (show ¬ (119 : Int32) = 114 by decide), if_neg (show ¬ (119 : Int32) = 115 by decide), if_neg (show ¬ (119 : Int32) = 116 by decide), if_neg (show ¬ (119 : Int32) = 117 by decide), if_neg (show ¬ (119 : Int32) = 118 by decide), if_pos rfl, a1, a2, a3]
      have e := sA_119 (q := q) (A := ar 1) h
      rw [show q - 1 = p + 4 by omega] at e
      exact fin e (m_makesWet hB _ (hN_2 _ _) _ hn h8)
  · rw [a0, if_neg (show ¬ (110 : Int32) = 99 by decide), if_neg (show ¬ (110 : Int32) = 100 by decide), if_neg (show ¬ (110 : Int32) = 101 by decide), if_neg (show ¬ (110 : Int32) = 102 by decide), if_neg (show ¬ (110 : Int32) = 103 by decide), if_neg (show ¬ (110 : Int32) = 104 by decide), if_neg (show ¬ (110 : Int32) = 105 by decide), if_neg (show ¬ (110 : Int32) = 106 by decide), if_neg (show ¬ (110 : Int32) = 107 by decide), if_neg (show ¬ (110 : Int32) = 108 by decide), if_neg (show ¬ (110 : Int32) = 109 by decide), if_pos rfl, a1, a2, a3]
    have e := sA_110 (q := q) (A := ar 1) h
    have hq7 : q = p + g + 7 := hq9
    rw [hq7, show p + g + 7 - 7 - p = g by omega, show p + g + 7 - 5 = p + g + 2 by omega, show p + g + 7 - 3 = p + g + 4 by omega, show p + g + 7 - 1 = p + g + 6 by omega, hdf] at e
    obtain ⟨g8, e9⟩ := m_given (fl := fl) (ar := ar) (L := L) hB hA hL hg hg1 h58 (by omega) hd (ar 5 (p + g + 2) - 48) (ar 5 (p + g + 4) - 48)
    refine ⟨g8, ?_⟩
    rw [e9, Option.bind_some, hq7, e]
end MDO
