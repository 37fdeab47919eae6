/-! The public acts, class and reference together -/
theorem zz2 (a : Int32) : ∃ h, h < 2 ∧ zz (zz a) = nI h := by
  by_cases c : a = 0
  · exact ⟨0, by omega, by unfold zz; rw [if_pos c]; rfl⟩
  · exact ⟨1, by omega, by unfold zz; rw [if_neg c]; rfl⟩
theorem zz01 (a : Int32) : zz a = 0 ∨ zz a = 1 := by
  unfold zz
  split
  · exact Or.inl rfl
  · exact Or.inr rfl
/-- what an act that is refused leaves, and what it throws -/
def SH (A : Nat → Int32) (es : List Nat) (code k : Int32) (r : Out) : Prop := r.1 = 0 ∨ (r.2.2 = A ∧ ((0 < r.1 ∧ 4 ∈ es ∧ wK es (.inr 4 : Int32 ⊕ Nat) = code) ∨ (r.1 = -1 ∧ (if k = 1 then 2 else 1) ∈ es ∧ wK es (.inr (if k = 1 then 2 else 1) : Int32 ⊕ Nat) = 1) ∨ (r.1 = -2 ∧ 1 ∈ es ∧ wK es (.inr 1 : Int32 ⊕ Nat) = 2)))
theorem SH.ok {A B : Nat → Int32} {es : List Nat} {code k b : Int32} : SH A es code k (0, b, B) := Or.inl rfl
theorem SH.m1 {A : Nat → Int32} {es : List Nat} {code k b : Int32} (h1 : (if k = 1 then 2 else 1) ∈ es) (h2 : wK es (.inr (if k = 1 then 2 else 1) : Int32 ⊕ Nat) = 1) : SH A es code k (-1, b, A) := Or.inr ⟨rfl, Or.inr (Or.inl ⟨rfl, h1, h2⟩)⟩
theorem SH.m2 {A : Nat → Int32} {es : List Nat} {code k b : Int32} (h1 : 1 ∈ es) (h2 : wK es (.inr 1 : Int32 ⊕ Nat) = 2) : SH A es code k (-2, b, A) := Or.inr ⟨rfl, Or.inr (Or.inr ⟨rfl, h1, h2⟩)⟩
theorem SH.p {A : Nat → Int32} {es : List Nat} {code k a b : Int32} (h0 : 0 < a) (h1 : 4 ∈ es) (h2 : wK es (.inr 4 : Int32 ⊕ Nat) = code) : SH A es code k (a, b, A) := Or.inr ⟨rfl, Or.inl ⟨h0, h1, h2⟩⟩

theorem sh_letter (c : Int32) (A : Nat → Int32) : SH A [1, 4] 2 2 (sLetter c A) := by
  unfold sLetter
  (try split) <;> (try split) <;> (first | exact SH.ok | exact SH.m1 (by decide) (by decide) | exact SH.m2 (by decide) (by decide) | exact SH.p (by decide) (by decide) (by decide))
theorem sh_unletter  (A : Nat → Int32) : SH A [4] 1 1 (sUnletter A) := by
  unfold sUnletter
  (try split) <;> (first | exact SH.ok | exact SH.m1 (by decide) (by decide) | exact SH.m2 (by decide) (by decide) | exact SH.p (by decide) (by decide) (by decide))
theorem sh_away (x : Int32) (A : Nat → Int32) : SH A [2] 2 1 (sAway x A) := by
  unfold sAway
  (try split) <;> (first | exact SH.ok | exact SH.m1 (by decide) (by decide) | exact SH.m2 (by decide) (by decide) | exact SH.p (by decide) (by decide) (by decide))
theorem sh_mood (p m : Int32) (A : Nat → Int32) : SH A [2, 1, 4] 3 1 (sMood p m A) := by
  unfold sMood
  (try split) <;> (try split) <;> (try split) <;> (first | exact SH.ok | exact SH.m1 (by decide) (by decide) | exact SH.m2 (by decide) (by decide) | exact SH.p (by decide) (by decide) (by decide))
theorem sh_pier (p z : Int32) (A : Nat → Int32) : SH A [2, 4] 2 1 (sPier p z A) := by
  unfold sPier
  (try split) <;> (try split) <;> (first | exact SH.ok | exact SH.m1 (by decide) (by decide) | exact SH.m2 (by decide) (by decide) | exact SH.p (by decide) (by decide) (by decide))
theorem sh_tear (x : Int32) (A : Nat → Int32) : SH A [2, 4] 2 1 (sTear x A) := by
  unfold sTear
  (try split) <;> (try split) <;> (first | exact SH.ok | exact SH.m1 (by decide) (by decide) | exact SH.m2 (by decide) (by decide) | exact SH.p (by decide) (by decide) (by decide))
theorem sh_lost (x : Int32) (h : Nat) (v : Int32) (A : Nat → Int32) : SH A [2, 4] 2 1 (sLost x h v A) := by
  unfold sLost
  (try split) <;> (try split) <;> (first | exact SH.ok | exact SH.m1 (by decide) (by decide) | exact SH.m2 (by decide) (by decide) | exact SH.p (by decide) (by decide) (by decide))
theorem sh_punch (x : Int32) (h : Nat) (p : Int32) (A : Nat → Int32) : SH A [2, 4] 2 1 (sPunch x h p A) := by
  unfold sPunch
  (try split) <;> (try split) <;> (try split) <;> (first | exact SH.ok | exact SH.m1 (by decide) (by decide) | exact SH.m2 (by decide) (by decide) | exact SH.p (by decide) (by decide) (by decide))
theorem sh_wet (x : Int32) (h : Nat) (b : Int32) (A : Nat → Int32) : SH A [2, 1] 3 1 (sWet x h b A) := by
  unfold sWet
  (try split) <;> (try split) <;> (first | exact SH.ok | exact SH.m1 (by decide) (by decide) | exact SH.m2 (by decide) (by decide) | exact SH.p (by decide) (by decide) (by decide))
theorem sh_print (g : Nat) (f t c : Int32) (G : Nat → Int32) (A : Nat → Int32) : SH A [2, 1, 4] 3 1 (sPrint g f t c G A) := by
  unfold sPrint
  (try split) <;> (try split) <;> (try split) <;> (try split) <;> (try split) <;> (try split) <;> (try split) <;> (first | exact SH.ok | exact SH.m1 (by decide) (by decide) | exact SH.m2 (by decide) (by decide) | exact SH.p (by decide) (by decide) (by decide))
theorem sh_ride (x : Int32) (h : Nat) (A : Nat → Int32) : SH A [2, 4] 2 1 (sRide x h A) := by
  unfold sRide
  by_cases c : inn x 0 (A 0 - 1) = 0
  · rw [if_pos c]
    exact SH.m1 (by decide) (by decide)
  rw [if_neg c]
  by_cases d : (sHind x.toNatClampNeg h A).1 ≤ 0
  · rw [if_pos d]
    exact SH.ok
  · rw [if_neg d]
    refine SH.p ?_ (by decide) (by decide)
    rw [Int32.le_iff_toInt_le] at d
    rw [Int32.lt_iff_toInt_lt]
    omega
theorem sh_day (A : Nat → Int32) : SH A [] 1 1 (sDay A) := Or.inl rfl
theorem SH.to {A : Nat → Int32} {es : List Nat} {code k : Int32} {r : Out} (hs : SH A es code k r) : (0 < r.1 → 4 ∈ es ∧ wK es (.inr 4 : Int32 ⊕ Nat) = code) ∧ (r.1 = -1 → (if k = 1 then 2 else 1) ∈ es ∧ wK es (.inr (if k = 1 then 2 else 1) : Int32 ⊕ Nat) = 1) ∧ (r.1 = -2 → 1 ∈ es ∧ wK es (.inr 1 : Int32 ⊕ Nat) = 2) := by
  refine ⟨fun h => ?_, fun h => ?_, fun h => ?_⟩
  · rcases hs with z | ⟨-, z | z | z⟩
    · rw [z] at h
      exact absurd h (by decide)
    · exact z.2
    · rw [z.1] at h
      exact absurd h (by decide)
    · rw [z.1] at h
      exact absurd h (by decide)
  · rcases hs with z | ⟨-, z | z | z⟩
    · rw [z] at h
      exact absurd h (by decide)
    · have z1 := z.1
      rw [h] at z1
      exact absurd z1 (by decide)
    · exact z.2
    · have z1 := z.1
      rw [h] at z1
      exact absurd z1 (by decide)
  · rcases hs with z | ⟨-, z | z | z⟩
    · rw [z] at h
      exact absurd h (by decide)
    · have z1 := z.1
      rw [h] at z1
      exact absurd z1 (by decide)
    · have z1 := z.1
      rw [h] at z1
      exact absurd z1 (by decide)
    · exact z.2
theorem join2 {b : Nat} {w : FW} {x n : Nat} {fl : Nat → Int32} {ar : Nat → Nat → Int32} {es : List Nat} {cx : FW → Option ((Int32 ⊕ Nat) × FW)} {cm : FW → Option (Int32 × FW)} {k code : Int32} {r : Out} (G : FW → Option ((Int32 ⊕ Nat) × FW))
    (hB : MB w (x + 512)) (hfl : flW w (x + 512) = fl) (har : arW w (x + 512) = ar) (J : JP b w x fl ar n)
    (hx : PB w x (ar 1) n (cp 177 (ar 1) (ar 2)) (ar 4) (fl 506) (ar 3) k r G (cx w))
    (hs : SH (ar 1) es code k r)
    (hm : ∀ w1, MB w1 (x + 512) → cm (mW w1 (x + 512) fl ar) = some (eA code r, pubW w1 (x + 512) fl ar code n r))
    (hG : r.1 = 0 → ∀ w', CI w' x → KO w' (gR w' 400 x 0) r.2.2 → w'.1 = w.1 → G w' = some (.inl r.2.1, w'))
    (hdy : DY (b + 60) r.2.2) : KJ (b + 60) x es cx cm w := by
  refine join_act (r' := r) (ar' := up (up (rA ar) 1 r.2.2) 4 (eH n (cp 177 (ar 1) (ar 2)) (ar 4) r)) hB hfl har J hx ⟨rfl, fun _ => rfl⟩ (fun h0 w' C' e => ⟨w', hG h0 w' C'.1 C'.K e, C', KP.rf _ _⟩) hm ?_ ?_ (up_s _ _ _) ?_ ?_ (fun h0 => (hs.resolve_left h0).1) hdy ?_ ?_ ?_
  · rw [up_n (by omega), up_s]
  · rw [up_n (by omega), up_n (by omega)]
    exact up_n (by omega)
  · rw [up_n (by omega), up_n (by omega)]
    exact up_n (by omega)
  · rw [up_n (by omega), up_n (by omega)]
    exact up_n (by omega)
  · exact hs.to.1
  · exact hs.to.2.1
  · exact hs.to.2.2
theorem KO.dlen {w : FW} {o : Nat} {A : Nat → Int32} (K : KO w o A) : gI w 301 (o + 2) 0 = A 10 := K.2.1.2.2.2.2.2.2.2.2.1.1.trans K.2.2.d.1
theorem KO.ws {w : FW} {o : Nat} {A : Nat → Int32} (K : KO w o A) : WS w (o + 2) := K.1.2.2.2.2.2.2.2.2.2.2.2.1
theorem KO.g {w : FW} {o : Nat} {A : Nat → Int32} (K : KO w o A) : gI w 101 o 0 = A 0 ∧ gI w 105 o 0 = A 1 ∧ gI w 106 o 0 = A 2 ∧ gI w 107 o 0 = A 3 ∧ gI w 108 o 0 = A 4 := ⟨K.2.1.1, K.2.1.2.1, K.2.1.2.2.1, K.2.1.2.2.2.1, K.2.1.2.2.2.2.1⟩
section KACTS
variable {b x : Nat} {w : FW}

theorem n0 {a b : Int32} {B : Nat → Int32} (h : ((a, b, B) : Out).1 = 0) (k : ¬ a = 0) : False := k h
theorem v_letter {c : Int32} {A : Nat → Int32} (h : (sLetter c A).1 = 0) : (sLetter c A).2.2 10 = (sLetter c A).2.1 := by
  unfold sLetter at h ⊢
  split at h
  · exact (n0 h (by decide)).elim
  · split at h
    · exact (n0 h (by decide)).elim
    · rename_i h1 h2
      rw [if_neg h1, if_neg h2]
      show up (up A (11 + (A 10).toNatClampNeg) c) 10 (A 10 + 1) 10 = A 10 + 1
      exact up_s _ _ _
theorem v_unletter {A : Nat → Int32} (h : (sUnletter A).1 = 0) : (sUnletter A).2.2 10 = (sUnletter A).2.1 := by
  unfold sUnletter at h ⊢
  split at h
  · exact (n0 h (by decide)).elim
  · rename_i h1
    rw [if_neg h1]
    show up (up A (10 + (A 10).toNatClampNeg) 0) 10 (A 10 - 1) 10 = A 10 - 1
    exact up_s _ _ _
theorem v_away {x : Int32} {A : Nat → Int32} (h : (sAway x A).1 = 0) : (sAway x A).2.2 0 = (sAway x A).2.1 := by
  unfold sAway at h ⊢
  split at h
  · exact (n0 h (by decide)).elim
  · rename_i h1
    rw [if_neg h1]
    show dropA x.toNatClampNeg (aN A) A 0 = nI (aN A - 1)
    exact if_pos rfl
theorem v_mood {p m : Int32} {A : Nat → Int32} (h : (sMood p m A).1 = 0) : (if inn p 0 2 = 0 then -1 else A (7 + p.toNatClampNeg)) = (sMood p m A).2.1 := by
  unfold sMood at h ⊢
  split at h
  · exact (n0 h (by decide)).elim
  · split at h
    · exact (n0 h (by decide)).elim
    · split at h
      · exact (n0 h (by decide)).elim
      · rename_i h1 h2 h3
        rw [if_neg h1, if_neg h1, if_neg h2, if_neg h3]
theorem v_pier {p z : Int32} {A : Nat → Int32} (h : (sPier p z A).1 = 0) : aOpen (sPier p z A).2.2 = (sPier p z A).2.1 := by
  unfold sPier at h ⊢
  split at h
  · exact (n0 h (by decide)).elim
  · split at h
    · rename_i h1 h2
      rw [if_neg h1, if_pos h2]
    · exact (n0 h (by decide)).elim
theorem v_tear {x : Int32} {A : Nat → Int32} (h : (sTear x A).1 = 0) : aTorn (sTear x A).2.2 = (sTear x A).2.1 := by
  unfold sTear at h ⊢
  split at h
  · exact (n0 h (by decide)).elim
  · split at h
    · exact (n0 h (by decide)).elim
    · rename_i h1 h2
      rw [if_neg h1, if_neg h2]
theorem v_lost {x : Int32} {k : Nat} {v : Int32} {A : Nat → Int32} (h : (sLost x k v A).1 = 0) : aLost (sLost x k v A).2.2 = (sLost x k v A).2.1 := by
  unfold sLost at h ⊢
  split at h
  · exact (n0 h (by decide)).elim
  · split at h
    · exact (n0 h (by decide)).elim
    · rename_i h1 h2
      rw [if_neg h1, if_neg h2]
theorem v_ride {x : Int32} {k : Nat} {A : Nat → Int32} (h : (sRide x k A).1 = 0) : (sRide x k A).2.2 3 + (sRide x k A).2.2 4 = (sRide x k A).2.1 := by
  unfold sRide at h ⊢
  split at h
  · exact (n0 h (by decide)).elim
  · split at h
    · rename_i h1 h2
      rw [if_neg h1, if_pos h2]
    · rename_i h1 h2
      exact absurd (show (sHind x.toNatClampNeg k A).1 ≤ 0 by rw [show (sHind x.toNatClampNeg k A).1 = 0 from h]; decide) h2
theorem aHolesOf_5 (B : Nat → Int32) (v : Int32) (t k : Nat) : aHolesOf (up B 5 v) t k = aHolesOf B t k := by
  unfold aHolesOf
  rw [aLen_n (by omega)]
  refine cnt_congr (fun j hj => ?_)
  unfold aHoles
  rw [aL_n (by omega), aH_n (by omega)]
theorem v_punch {x : Int32} {k : Nat} {p : Int32} {A : Nat → Int32} (hA : WA A) (h : (sPunch x k p A).1 = 0) : ∃ t, t < aN (sPunch x k p A).2.2 ∧ x = nI t ∧ aHolesOf (sPunch x k p A).2.2 t k = (sPunch x k p A).2.1 := by
  obtain ⟨hn, h8, hT⟩ := hA.n
  unfold sPunch at h ⊢
  rcases tick_cases x h8 with ⟨t, ht, rfl, hi⟩ | hi
  · rw [hn, hi, if_neg (show ¬ (1 : Int32) = 0 by decide), nI_clamp (by omega)] at h ⊢
    by_cases hp : inn p 0 2 = 0
    · rw [if_pos hp] at h
      exact (n0 h (by decide)).elim
    rw [if_neg hp] at h ⊢
    by_cases c : aH A t k 0 = -1
    · rw [if_pos c]
      refine ⟨t, ?_, rfl, ?_⟩
      · show t < aN (up (up A (iH t k 0) (A (7 + p.toNatClampNeg))) 5 _)
        rw [aN_up (by omega), aN_up (by unfold iH; omega)]
        exact ht
      · show aHolesOf (up (up A (iH t k 0) (A (7 + p.toNatClampNeg))) 5 _) t k = aHolesOf (up A (iH t k 0) (A (7 + p.toNatClampNeg))) t k
        exact aHolesOf_5 _ _ _ _
    · rw [if_neg c] at h
      exact (n0 h (by decide)).elim
  · rw [hn, hi, if_pos rfl] at h
    exact (n0 h (by decide)).elim
theorem wetB_0 (t k : Nat) (b : Int32) (A : Nat → Int32) : wetB t k b A 0 = A 0 := by
  have e1 : ∀ B : Nat → Int32, ∀ k' b', wetA t k' b' B 0 = B 0 := fun B k' b' => up_n (by unfold iH; omega)
  unfold wetB
  split
  · split
    · rw [up_n (by omega), e1, e1]
    · split
      · rw [e1, e1]
      · rw [up_n (by omega), e1, e1]
  · exact e1 _ _ _
theorem v_wet {x : Int32} {k : Nat} {c : Int32} {A : Nat → Int32} (hA : WA A) (h : (sWet x k c A).1 = 0) : ∃ t, t < aN (sWet x k c A).2.2 ∧ x = nI t ∧ aH (sWet x k c A).2.2 t k 1 = (sWet x k c A).2.1 := by
  obtain ⟨hn, h8, hT⟩ := hA.n
  unfold sWet at h ⊢
  rcases tick_cases x h8 with ⟨t, ht, rfl, hi⟩ | hi
  · rw [hn, hi, if_neg (show ¬ (1 : Int32) = 0 by decide), nI_clamp (by omega)] at h ⊢
    by_cases hp : inn c 1 9 = 0
    · rw [if_pos hp] at h
      exact (n0 h (by decide)).elim
    rw [if_neg hp]
    refine ⟨t, ?_, rfl, rfl⟩
    show t < (wetB t k c A 0).toNatClampNeg
    rw [wetB_0]
    exact ht
  · rw [hn, hi, if_pos rfl] at h
    exact (n0 h (by decide)).elim

theorem k_letter (hJ : JJ b w x) (c : Int32) : KJ (b + 60) x [1, 4] (F_X4_letter x c) (F_X5_letter (x + 512) c) w := by
  obtain ⟨hB, n, J⟩ := hJ
  obtain ⟨C, h5, hN, hD⟩ := id J
  have hA := C.2.2.1
  have g := g_letter hA c
  refine join2 (code := 2) (k := 2) (r := sLetter c (arW w (x + 512) 1)) (fun w' => fg (w.1 (gR w' 400 x 0) = 2) inferInstance (fg (w.1 (gR w' 102 (gR w' 400 x 0) 0) = 4) inferInstance (some ((.inl (gI w' 301 (gR w' 102 (gR w' 400 x 0) 0) 0)), w')))) hB rfl rfl J ?_ (sh_letter c _) (fun w1 h1 => m_letter h1 c hA.d.1.symm hA.d.2 h5 C.2.2.2.2.1) ?_ ((hD.1.up (by omega)).cg g.2)
  · unfold F_X4_letter
    rw [fg_t C.1.1]
    exact c_pub C (fun k hk => cp_l hk) (Or.inr rfl) (fun w1 ci X _ => t_letter X c) g.1 _
  · intro h0 w' c K e
    obtain ⟨q1, q2, q3, q4, q5, q6, q7, q8, q9, q10, q11⟩ := K.s
    show fg (w.1 (gR w' 400 x 0) = 2) _ _ = _
    rw [fg_t (by rw [← e]; exact q1), q9, fg_t (by rw [← e]; exact K.ws.1), K.dlen, v_letter h0]
theorem k_unletter (hJ : JJ b w x) : KJ (b + 60) x [4] (F_X4_unletter x) (F_X5_unletter (x + 512)) w := by
  obtain ⟨hB, n, J⟩ := hJ
  obtain ⟨C, h5, hN, hD⟩ := id J
  have hA := C.2.2.1
  have g := g_unletter hA
  refine join2 (code := 1) (k := 1) (r := sUnletter (arW w (x + 512) 1)) (fun w' => fg (w.1 (gR w' 400 x 0) = 2) inferInstance (fg (w.1 (gR w' 102 (gR w' 400 x 0) 0) = 4) inferInstance (some ((.inl (gI w' 301 (gR w' 102 (gR w' 400 x 0) 0) 0)), w')))) hB rfl rfl J ?_ (sh_unletter _) (fun w1 h1 => m_unletter h1 hA.d.1.symm hA.d.2 h5 C.2.2.2.2.1) ?_ ((hD.1.up (by omega)).cg g.2)
  · unfold F_X4_unletter
    rw [fg_t C.1.1]
    exact c_pub C (fun k hk => cp_l hk) (Or.inl rfl) (fun w1 ci X _ => t_unletter X) g.1 _
  · intro h0 w' c K e
    obtain ⟨q1, q2, q3, q4, q5, q6, q7, q8, q9, q10, q11⟩ := K.s
    show fg (w.1 (gR w' 400 x 0) = 2) _ _ = _
    rw [fg_t (by rw [← e]; exact q1), q9, fg_t (by rw [← e]; exact K.ws.1), K.dlen, v_unletter h0]
theorem k_away (hJ : JJ b w x) (a : Int32) : KJ (b + 60) x [2] (F_X4_throwAway x a) (F_X5_throwAway (x + 512) a) w := by
  obtain ⟨hB, n, J⟩ := hJ
  obtain ⟨C, h5, hN, hD⟩ := id J
  have hA := C.2.2.1
  have g := g_away hA a
  refine join2 (code := 2) (k := 1) (r := sAway a (arW w (x + 512) 1)) (fun w' => fg (w.1 (gR w' 400 x 0) = 2) inferInstance (some ((.inl (gI w' 101 (gR w' 400 x 0) 0)), w'))) hB rfl rfl J ?_ (sh_away a _) (fun w1 h1 => m_throwAway h1 a hA.n.1 hA.n.2.1 h5 C.2.2.2.2.1) ?_ ((hD.1.up (by omega)).cg g.2)
  · unfold F_X4_throwAway
    rw [fg_t C.1.1]
    exact c_pub C (fun k hk => cp_l hk) (Or.inl rfl) (fun w1 ci X _ => t_away X a) g.1 _
  · intro h0 w' c K e
    obtain ⟨q1, q2, q3, q4, q5, q6, q7, q8, q9, q10, q11⟩ := K.s
    show fg (w.1 (gR w' 400 x 0) = 2) _ _ = _
    rw [fg_t (by rw [← e]; exact q1), K.g.1, v_away h0]
theorem k_day (hJ : JJ b w x) (hb : b < 99000) : KJ (b + 60) x [] (F_X4_day x) (F_X5_day (x + 512)) w := by
  obtain ⟨hB, n, J⟩ := hJ
  obtain ⟨C, h5, hN, hD⟩ := id J
  have hA := C.2.2.1
  obtain ⟨d, hd9, hd⟩ := hD.1
  have g := g_day hA hd (by omega)
  refine join2 (code := 1) (k := 1) (r := sDay (arW w (x + 512) 1)) (fun w' => fg (w.1 (gR w' 400 x 0) = 2) inferInstance (some ((.inl (gI w' 105 (gR w' 400 x 0) 0)), w'))) hB rfl rfl J ?_ (sh_day _) (fun w1 h1 => m_day h1 h5 C.2.2.2.2.1) ?_ (⟨d + 1, by omega, g.2⟩)
  · unfold F_X4_day
    rw [fg_t C.1.1]
    exact c_pub C (fun k hk => cp_l hk) (Or.inl rfl) (fun w1 ci X _ => t_day X) g.1 _
  · intro h0 w' c K e
    obtain ⟨q1, q2, q3, q4, q5, q6, q7, q8, q9, q10, q11⟩ := K.s
    show fg (w.1 (gR w' 400 x 0) = 2) _ _ = _
    rw [fg_t (by rw [← e]; exact q1), K.g.2.1]
    rfl
theorem k_pier (hJ : JJ b w x) (p z : Int32) : KJ (b + 60) x [2, 4] (F_X4_pier x p (zz z)) (F_X5_pier (x + 512) p (zz z)) w := by
  obtain ⟨hB, n, J⟩ := hJ
  obtain ⟨C, h5, hN, hD⟩ := id J
  have hA := C.2.2.1
  have g := g_pier hA p (zz z)
  refine join2 (code := 2) (k := 1) (r := sPier p (zz z) (arW w (x + 512) 1)) (fun w' => fg (w.1 (gR w' 400 x 0) = 2) inferInstance ((F_X1_openPiers (gR w' 400 x 0) w').bind (fun r15 => some ((.inl r15), w')))) hB rfl rfl J ?_ (sh_pier p _ _) (fun w1 h1 => m_pier h1 p (zz z) h5 C.2.2.2.2.1) ?_ ((hD.1.up (by omega)).cg g.2)
  · unfold F_X4_pier
    rw [fg_t C.1.1]
    exact c_pub C (fun k hk => cp_l hk) (Or.inl rfl) (fun w1 ci X _ => t_pier X p (zz01 z)) g.1 _
  · intro h0 w' c K e
    obtain ⟨q1, q2, q3, q4, q5, q6, q7, q8, q9, q10, q11⟩ := K.s
    show fg (w.1 (gR w' 400 x 0) = 2) _ _ = _
    rw [fg_t (by rw [← e]; exact q1), c_openPiers K, Option.bind_some, v_pier h0]
theorem k_tear (hJ : JJ b w x) (a : Int32) : KJ (b + 60) x [2, 4] (F_X4_tear x a) (F_X5_tear (x + 512) a) w := by
  obtain ⟨hB, n, J⟩ := hJ
  obtain ⟨C, h5, hN, hD⟩ := id J
  have hA := C.2.2.1
  have g := g_tear hA a
  refine join2 (code := 2) (k := 1) (r := sTear a (arW w (x + 512) 1)) (fun w' => fg (w.1 (gR w' 400 x 0) = 2) inferInstance ((F_X1_tornTickets (gR w' 400 x 0) w').bind (fun r15 => some ((.inl r15), w')))) hB rfl rfl J ?_ (sh_tear a _) (fun w1 h1 => m_tear h1 a hA.n.1 hA.n.2.1 h5 C.2.2.2.2.1) ?_ ((hD.1.up (by omega)).cg g.2)
  · unfold F_X4_tear
    rw [fg_t C.1.1]
    exact c_pub C (fun k hk => cp_l hk) (Or.inl rfl) (fun w1 ci X _ => t_tear X a) g.1 _
  · intro h0 w' c K e
    obtain ⟨q1, q2, q3, q4, q5, q6, q7, q8, q9, q10, q11⟩ := K.s
    show fg (w.1 (gR w' 400 x 0) = 2) _ _ = _
    rw [fg_t (by rw [← e]; exact q1), c_torn K, Option.bind_some, v_tear h0]
theorem k_lose (hJ : JJ b w x) (a z : Int32) : KJ (b + 60) x [2, 4] (F_X4_lose x a (zz z)) (F_X5_lose (x + 512) a (zz z)) w := by
  obtain ⟨hB, n, J⟩ := hJ
  obtain ⟨C, h5, hN, hD⟩ := id J
  have hA := C.2.2.1
  obtain ⟨h, hh, hz⟩ := zz2 z
  have g := g_lost hA a hh (v := 1) (by decide)
  refine join2 (code := 2) (k := 1) (r := sLost a h 1 (arW w (x + 512) 1)) (fun w' => fg (w.1 (gR w' 400 x 0) = 2) inferInstance ((F_X1_lostHalves (gR w' 400 x 0) w').bind (fun r15 => some ((.inl r15), w')))) hB rfl rfl J ?_ (sh_lost a h _ _) (fun w1 h1 => m_lose h1 a hh (zz z) hz hA.n.1 hA.n.2.1 h5 C.2.2.2.2.1) ?_ ((hD.1.up (by omega)).cg g.2)
  · unfold F_X4_lose
    rw [fg_t C.1.1]
    exact c_pub C (fun k hk => cp_l hk) (Or.inl rfl) (fun w1 ci X _ => t_lost X a hh hz (by decide)) g.1 _
  · intro h0 w' c K e
    obtain ⟨q1, q2, q3, q4, q5, q6, q7, q8, q9, q10, q11⟩ := K.s
    show fg (w.1 (gR w' 400 x 0) = 2) _ _ = _
    rw [fg_t (by rw [← e]; exact q1), c_lost K, Option.bind_some, v_lost h0]
theorem k_find (hJ : JJ b w x) (a z : Int32) : KJ (b + 60) x [2, 4] (F_X4_find x a (zz z)) (F_X5_find (x + 512) a (zz z)) w := by
  obtain ⟨hB, n, J⟩ := hJ
  obtain ⟨C, h5, hN, hD⟩ := id J
  have hA := C.2.2.1
  obtain ⟨h, hh, hz⟩ := zz2 z
  have g := g_lost hA a hh (v := 0) (by decide)
  refine join2 (code := 2) (k := 1) (r := sLost a h 0 (arW w (x + 512) 1)) (fun w' => fg (w.1 (gR w' 400 x 0) = 2) inferInstance ((F_X1_lostHalves (gR w' 400 x 0) w').bind (fun r15 => some ((.inl r15), w')))) hB rfl rfl J ?_ (sh_lost a h _ _) (fun w1 h1 => m_find h1 a hh (zz z) hz hA.n.1 hA.n.2.1 h5 C.2.2.2.2.1) ?_ ((hD.1.up (by omega)).cg g.2)
  · unfold F_X4_find
    rw [fg_t C.1.1]
    exact c_pub C (fun k hk => cp_l hk) (Or.inl rfl) (fun w1 ci X _ => t_lost X a hh hz (by decide)) g.1 _
  · intro h0 w' c K e
    obtain ⟨q1, q2, q3, q4, q5, q6, q7, q8, q9, q10, q11⟩ := K.s
    show fg (w.1 (gR w' 400 x 0) = 2) _ _ = _
    rw [fg_t (by rw [← e]; exact q1), c_lost K, Option.bind_some, v_lost h0]
theorem k_ride (hJ : JJ b w x) (a z : Int32) : KJ (b + 60) x [2, 4] (F_X4_ride x a (zz z)) (F_X5_ride (x + 512) a (zz z)) w := by
  obtain ⟨hB, n, J⟩ := hJ
  obtain ⟨C, h5, hN, hD⟩ := id J
  have hA := C.2.2.1
  obtain ⟨h, hh, hz⟩ := zz2 z
  have g := g_ride hA a hh
  refine join2 (code := 2) (k := 1) (r := sRide a h (arW w (x + 512) 1)) (fun w' => fg (w.1 (gR w' 400 x 0) = 2) inferInstance (some ((.inl ((gI w' 107 (gR w' 400 x 0) 0) + (gI w' 108 (gR w' 400 x 0) 0))), w'))) hB rfl rfl J ?_ (sh_ride a h _) (fun w1 h1 => m_ride h1 a hh (zz z) hz hA.n.1 hA.n.2.1 hA.n.2.2 h5 C.2.2.2.2.1) ?_ ((hD.1.up (by omega)).cg g.2)
  · unfold F_X4_ride
    rw [fg_t C.1.1]
    exact c_pub C (fun k hk => cp_l hk) (Or.inl rfl) (fun w1 ci X _ => t_ride X a hh hz) g.1 _
  · intro h0 w' c K e
    obtain ⟨q1, q2, q3, q4, q5, q6, q7, q8, q9, q10, q11⟩ := K.s
    show fg (w.1 (gR w' 400 x 0) = 2) _ _ = _
    rw [fg_t (by rw [← e]; exact q1), K.g.2.2.2.1, K.g.2.2.2.2, v_ride h0]
theorem k_punch (hJ : JJ b w x) (a z p : Int32) : KJ (b + 60) x [2, 4] (F_X4_punch x a (zz z) p) (F_X5_punch (x + 512) a (zz z) p) w := by
  obtain ⟨hB, n, J⟩ := hJ
  obtain ⟨C, h5, hN, hD⟩ := id J
  have hA := C.2.2.1
  obtain ⟨h, hh, hz⟩ := zz2 z
  have g := g_punch hA a hh p
  refine join2 (code := 2) (k := 1) (r := sPunch a h p (arW w (x + 512) 1)) (fun w' => (F_X4_existing x a w').bind (fun r15 => fse r15 (fun v18 => fg (w.1 v18 = 3) inferInstance ((F_X2_half v18 (zz z) w').bind (fun r21 => fg (w.1 r21 = 1) inferInstance ((F_X0_holesWhenWet r21 (gR w' 200 v18 0) 0 w').bind (fun r25 => some ((.inl r25), w')))))) (fun x19 => some (.inr x19, w')))) hB rfl rfl J ?_ (sh_punch a h p _) (fun w1 h1 => m_punch h1 a hh (zz z) hz p hA.n.1 hA.n.2.1 (fun t ht => (hA.n.2.2 t ht).len) h5 C.2.2.2.2.1) ?_ ((hD.1.up (by omega)).cg g.2)
  · unfold F_X4_punch
    rw [fg_t C.1.1]
    exact c_pub C (fun k hk => cp_l hk) (Or.inl rfl) (fun w1 ci X _ => t_punch X a hh hz p) g.1 _
  · intro h0 w' c K e
    obtain ⟨q1, q2, q3, q4, q5, q6, q7, q8, q9, q10, q11⟩ := K.s
    obtain ⟨t, ht, rfl, hv⟩ := v_punch hA h0
    have X : XO w' x (gR w' 400 x 0) (sPunch (nI t) h p (arW w (x + 512) 1)).2.2 := ⟨c.1, rfl, K⟩
    have T := K.T ht
    have e2 : F_X2_half (gR w' 604 (gR w' 400 x 0 + 1) t) (zz z) w' = some (gR w' 604 (gR w' 400 x 0 + 1) t + 3 + h) := c_half T hh hz
    show (F_X4_existing x (nI t) w').bind _ = _
    rw [c_exist X ht, Option.bind_some]
    show fg (w.1 (gR w' 604 (gR w' 400 x 0 + 1) t) = 3) _ _ = _
    rw [fg_t (by rw [← e]; exact T.w.1), e2, Option.bind_some, fg_t (by rw [← e]; exact (T.h hh).1), T.w.2.2.1, c_holesOf (T.h hh), Option.bind_some, hv]
theorem k_wet (hJ : JJ b w x) (a z p : Int32) : KJ (b + 60) x [2, 1] (F_X4_wet x a (zz z) p) (F_X5_wet (x + 512) a (zz z) p) w := by
  obtain ⟨hB, n, J⟩ := hJ
  obtain ⟨C, h5, hN, hD⟩ := id J
  have hA := C.2.2.1
  obtain ⟨h, hh, hz⟩ := zz2 z
  have g := g_wet hA a hh p
  refine join2 (code := 3) (k := 1) (r := sWet a h p (arW w (x + 512) 1)) (fun w' => (F_X4_existing x a w').bind (fun r15 => fse r15 (fun v18 => fg (w.1 v18 = 3) inferInstance ((F_X2_half v18 (zz z) w').bind (fun r21 => fg (w.1 r21 = 1) inferInstance (some ((.inl (gI w' 2 r21 0)), w'))))) (fun x19 => some (.inr x19, w')))) hB rfl rfl J ?_ (sh_wet a h p _) (fun w1 h1 => m_wet h1 a hh (zz z) hz p hA.n.1 hA.n.2.1 h5 C.2.2.2.2.1) ?_ ((hD.1.up (by omega)).cg g.2)
  · unfold F_X4_wet
    rw [fg_t C.1.1]
    exact c_pub C (fun k hk => cp_l hk) (Or.inl rfl) (fun w1 ci X _ => t_wet X a hh hz p) g.1 _
  · intro h0 w' c K e
    obtain ⟨q1, q2, q3, q4, q5, q6, q7, q8, q9, q10, q11⟩ := K.s
    obtain ⟨t, ht, rfl, hv⟩ := v_wet hA h0
    have X : XO w' x (gR w' 400 x 0) (sWet (nI t) h p (arW w (x + 512) 1)).2.2 := ⟨c.1, rfl, K⟩
    have T := K.T ht
    have e2 : F_X2_half (gR w' 604 (gR w' 400 x 0 + 1) t) (zz z) w' = some (gR w' 604 (gR w' 400 x 0 + 1) t + 3 + h) := c_half T hh hz
    show (F_X4_existing x (nI t) w').bind _ = _
    rw [c_exist X ht, Option.bind_some]
    show fg (w.1 (gR w' 604 (gR w' 400 x 0 + 1) t) = 3) _ _ = _
    rw [fg_t (by rw [← e]; exact T.w.1), e2, Option.bind_some, fg_t (by rw [← e]; exact (T.h hh).1), (T.h hh).2.1.2.2.1, hv]
theorem k_mood (hJ : JJ b w x) (p m : Int32) : KJ (b + 60) x [2, 1, 4] (F_X4_mood x p m) (F_X5_mood (x + 512) p m) w := by
  obtain ⟨hB, n, J⟩ := hJ
  obtain ⟨C, h5, hN, hD⟩ := id J
  have hA := C.2.2.1
  have g := g_mood hA p m
  refine join2 (code := 3) (k := 1) (r := sMood p m (arW w (x + 512) 1)) (fun w' => some (.inl (if inn p 0 2 = 0 then -1 else (arW w (x + 512) 1) (7 + p.toNatClampNeg)), w')) hB rfl rfl J ?_ (sh_mood p m _) (fun w1 h1 => m_mood h1 p m h5 C.2.2.2.2.1) ?_ ((hD.1.up (by omega)).cg g.2)
  · unfold F_X4_mood
    rw [fg_t C.1.1, fg_t (show w.1 (gR w 400 x 0) = 2 from C.K.s.1)]
    have e0 : F_X1_moodOf (gR w 400 x 0) p w = _ := c_moodOf C.K p
    rw [e0, Option.bind_some]
    exact c_pub C (fun k hk => cp_l hk) (Or.inl rfl) (fun w1 ci X _ => t_mood X p m) g.1 _
  · intro h0 w' c K e
    obtain ⟨q1, q2, q3, q4, q5, q6, q7, q8, q9, q10, q11⟩ := K.s
    show some (_, w') = _
    rw [v_mood h0]
end KACTS
theorem v_print {g : Nat} {f t c : Int32} {G A : Nat → Int32} (hn : A 0 = nI (aN A)) (h : (sPrint g f t c G A).1 = 0) : (sPrint g f t c G A).2.2 0 - 1 = (sPrint g f t c G A).2.1 := by
  unfold sPrint at h ⊢
  by_cases c0 : inn f 0 4 = 0
  · rw [if_pos c0] at h
    exact (n0 h (by decide)).elim
  rw [if_neg c0] at h ⊢
  by_cases c1 : inn t 0 4 = 0
  · rw [if_pos c1] at h
    exact (n0 h (by decide)).elim
  rw [if_neg c1] at h ⊢
  by_cases c2 : f = t
  · rw [if_pos c2] at h
    exact (n0 h (by decide)).elim
  rw [if_neg c2] at h ⊢
  by_cases c3 : inn c 1 9 = 0
  · rw [if_pos c3] at h
    exact (n0 h (by decide)).elim
  rw [if_neg c3] at h ⊢
  by_cases c4 : nI g < 2
  · rw [if_pos c4] at h
    exact (n0 h (by decide)).elim
  rw [if_neg c4] at h ⊢
  by_cases c5 : gVow G g = 0
  · rw [if_pos c5] at h
    exact (n0 h (by decide)).elim
  rw [if_neg c5] at h ⊢
  by_cases c6 : A 0 = 8
  · rw [if_pos c6] at h
    exact (n0 h (by decide)).elim
  rw [if_neg c6] at h ⊢
  show printA (aN A) g f t c G A 0 - 1 = A 0
  rw [pr_0, nI_pred, hn]
theorem fg_bind {α β : Type} {P : Prop} {i : Decidable P} {o : Option α} {k : α → Option β} : (fg P i o).bind k = fg P i (o.bind k) := by
  unfold fg
  split <;> rfl
theorem prD {d : Nat} {f t c : Int32} {A : Nat → Int32} : (sPrintD d f t c A).1 = (sPrint d f t c (fun k => A (10 + k)) A).1 ∧ (¬ (sPrint d f t c (fun k => A (10 + k)) A).1 = 0 → sPrintD d f t c A = sPrint d f t c (fun k => A (10 + k)) A) ∧ ((sPrint d f t c (fun k => A (10 + k)) A).1 = 0 → sPrintD d f t c A = (0, (sPrint d f t c (fun k => A (10 + k)) A).2.1, zrA 10 7 (sPrint d f t c (fun k => A (10 + k)) A).2.2)) := by
  by_cases h : (sPrint d f t c (fun k => A (10 + k)) A).1 = 0
  · have e : sPrintD d f t c A = (0, (sPrint d f t c (fun k => A (10 + k)) A).2.1, zrA 10 7 (sPrint d f t c (fun k => A (10 + k)) A).2.2) := if_pos h
    exact ⟨by rw [e, h], fun z => absurd h z, fun _ => e⟩
  · have e : sPrintD d f t c A = sPrint d f t c (fun k => A (10 + k)) A := if_neg h
    exact ⟨by rw [e], fun _ => e, fun z => absurd z h⟩
theorem c_noDraft {w : FW} {o : Nat} {A : Nat → Int32} (K : KO w o A) : Fr w (sI w 301 (o + 2) 0 0) (bl o 46) ∧ OS (sI w 301 (o + 2) 0 0) o ∧ OR (sI w 301 (o + 2) 0 0) o (zrA 10 7 A) := by
  have W := K.ws
  have z := OR.draft (A' := zrA 10 7 A) K (Fr.sI w 301 (o + 2) 0 0 (bl_in (by omega) (by omega))) ⟨W.1, W.2.1, W.2.2.1, W.2.2.2.1, fun k hk => by rw [gI_sI, if_neg (by omega)]; exact W.2.2.2.2 k hk⟩ (fun i hi => if_neg (by omega)) (fun i hi => if_neg (by omega)) ⟨?_, fun k hk => ?_⟩
  · exact ⟨Fr.sI w 301 (o + 2) 0 0 (bl_in (by omega) (by omega)), z⟩
  · rw [gI_s]
    rfl
  · have e : (zrA 10 7 A 10).toNatClampNeg = 0 := by
      rw [show zrA 10 7 A 10 = 0 from if_pos (by omega)]
      rfl
    omega
set_option maxHeartbeats 1000000 in
theorem k_print {b x : Nat} {w : FW} (hJ : JJ b w x) (f t c : Int32) : KJ (b + 60) x [2, 1, 4] (F_X4_print x f t c) (F_X5_print (x + 512) f t c) w := by
  obtain ⟨hB, n, J⟩ := hJ
  obtain ⟨C, h5, hN, hD⟩ := id J
  have hA := C.2.2.1
  have hL : ∀ k, k < (arW w (x + 512) 1 10).toNatClampNeg → isLet ((fun k => arW w (x + 512) 1 (10 + k)) (k + 1)) = 1 := fun k hk => by
    obtain ⟨m, m1, m2, m3, m4⟩ := hA.2.1
    have e : (arW w (x + 512) 1 10).toNatClampNeg = m := by rw [m2]; exact nI_clamp (by omega)
    rw [e] at hk
    show isLet (arW w (x + 512) 1 (10 + (k + 1))) = 1
    rw [show 10 + (k + 1) = 11 + k by omega]
    exact m3 k hk
  have g0 := g_print hA hA.d.2 (G := fun k => arW w (x + 512) 1 (10 + k)) hA.d.1.symm hL f t c
  have g1 := g_printD hA hA.d.1.symm hA.d.2 f t c
  have hs := sh_print (arW w (x + 512) 1 10).toNatClampNeg f t c (fun k => arW w (x + 512) 1 (10 + k)) (arW w (x + 512) 1)
  obtain ⟨p1, p2, p3⟩ := prD (d := (arW w (x + 512) 1 10).toNatClampNeg) (f := f) (t := t) (c := c) (A := arW w (x + 512) 1)
  refine join_act (code := 3) (k := 1) (r := sPrint (arW w (x + 512) 1 10).toNatClampNeg f t c (fun k => arW w (x + 512) 1 (10 + k)) (arW w (x + 512) 1)) (r' := sPrintD (arW w (x + 512) 1 10).toNatClampNeg f t c (arW w (x + 512) 1))
    (G := fun w' => fg (w.1 (gR w' 400 x 0) = 2) inferInstance (fg (w.1 (gR w' 102 (gR w' 400 x 0) 0) = 4) inferInstance (some ((.inl ((gI (sI w' 301 (gR w' 102 (gR w' 400 x 0) 0) 0 0) 101 (gR (sI w' 301 (gR w' 102 (gR w' 400 x 0) 0) 0 0) 400 x 0) 0) - 1)), (sI w' 301 (gR w' 102 (gR w' 400 x 0) 0) 0 0))))) hB rfl rfl J ?_ ⟨p1, p2⟩ ?_ (fun w1 h1 => m_print h1 f t c hA.n.1 hA.n.2.1 hA.d.1.symm hA.d.2 h5 C.2.2.2.2.1) ?_ ?_ (up_s _ _ _) ?_ ?_ (fun h0 => by rw [p2 h0]; exact (hs.resolve_left h0).1) ((hD.1.up (by omega)).cg g1.2) hs.to.1 hs.to.2.1 hs.to.2.2
  · unfold F_X4_print
    rw [fg_t C.1.1]
    have e : ∀ (r1 : FW) (k : Int32 × FW → Option ((Int32 ⊕ Nat) × FW)), fg (w.1 (gR r1 400 x 0) = 2) inferInstance ((F_X4_tryPrint x (gR r1 102 (gR r1 400 x 0) 0) f t c r1).bind k) = (fg (w.1 (gR r1 400 x 0) = 2) inferInstance (F_X4_tryPrint x (gR r1 102 (gR r1 400 x 0) 0) f t c r1)).bind k := fun r1 k => fg_bind.symm
    simp only [e]
    refine c_pub C (fun k hk => cp_l hk) (Or.inl rfl) (tryF := fun r1 => fg (w.1 (gR r1 400 x 0) = 2) inferInstance (F_X4_tryPrint x (gR r1 102 (gR r1 400 x 0) 0) f t c r1)) (fun w1 ci X e1 => ?_) g0.1 (fun w' => fg (w.1 (gR w' 400 x 0) = 2) inferInstance (fg (w.1 (gR w' 102 (gR w' 400 x 0) 0) = 4) inferInstance (some ((.inl ((gI (sI w' 301 (gR w' 102 (gR w' 400 x 0) 0) 0 0) 101 (gR (sI w' 301 (gR w' 102 (gR w' 400 x 0) 0) 0 0) 400 x 0) 0) - 1)), (sI w' 301 (gR w' 102 (gR w' 400 x 0) 0) 0 0)))))
    have K := X.2.2
    have s := K.s
    show CA w1 x (OFF w1 x 0) 1 _ (fg (w.1 (gR w1 400 x 0) = 2) _ (F_X4_tryPrint x (gR w1 102 (gR w1 400 x 0) 0) f t c w1))
    rw [fg_t (by rw [← e1]; exact s.1)]
    have e2 : gR w1 102 (gR w1 400 x 0) 0 = OFF w1 x 0 + 2 := s.2.2.2.2.2.2.2.2.1
    rw [e2]
    refine t_print X (by have := ci.off (j := 0) (by omega); omega) K.ws (K.2.1.2.2.2.2.2.2.2.2.1.to (fun k hk => ?_)) hA.d.2 hA.d.1.symm (Or.inl (by omega)) f t c
    exact congrArg (arW w (x + 512) 1) (by omega)
  · intro h0 w' C' e
    have K := C'.K
    have s := K.s
    obtain ⟨f1, s1, r1⟩ := c_noDraft K
    obtain ⟨C2, -, K2, -⟩ := C'.act f1 s1 r1 (zr_w C'.2.2.1).1
    refine ⟨_, ?_, ?_, K2⟩
    · show fg (w.1 (gR w' 400 x 0) = 2) _ _ = _
      have e2 : gR w' 102 (gR w' 400 x 0) 0 = OFF w' x 0 + 2 := s.2.2.2.2.2.2.2.2.1
      rw [fg_t (by rw [← e]; exact s.1), e2, fg_t (by rw [← e]; exact K.ws.1)]
      have e3 : gI (sI w' 301 (OFF w' x 0 + 2) 0 0) 101 (gR (sI w' 301 (OFF w' x 0 + 2) 0 0) 400 x 0) 0 = (sPrint (arW w (x + 512) 1 10).toNatClampNeg f t c (fun k => arW w (x + 512) 1 (10 + k)) (arW w (x + 512) 1)).2.2 0 := by
        rw [gI_sI, if_neg (by omega), gR_sI]
        exact K.g.1
      rw [e3, v_print hA.n.1 h0, p3 h0]
    · rw [p3 h0]
      exact C2
  · rw [up_n (by omega), up_s]
  · rw [up_n (by omega), up_n (by omega), up_n (by omega)]
    exact up_n (by omega)
  · rw [up_n (by omega), up_n (by omega), up_n (by omega)]
    exact up_n (by omega)
  · rw [up_n (by omega), up_n (by omega), up_n (by omega)]
    exact up_n (by omega)
