/-! The public acts, class and reference together -/
theorem zz2 (a : Int32) : ∃ h, h < 2 ∧ zz (zz a) = nI h := by
  by_cases c : a = 0
  · exact ⟨0, by omega, by unfold zz; rw [if_pos c]; rfl⟩
  · exact ⟨1, by omega, by unfold zz; rw [if_neg c]; rfl⟩
theorem zz01 (a : Int32) : zz a = 0 ∨ zz a = 1 := by
  unfold zz
  split
  · exact Or.inl rfl
  · exact Or.inr rfl
/-- what an act that is refused leaves, and what it throws -/
def SH (A : Nat → Int32) (es : List Nat) (code k : Int32) (r : Out) : Prop := r.1 = 0 ∨ (r.2.2 = A ∧ ((0 < r.1 ∧ 4 ∈ es ∧ wK es (.inr 4 : Int32 ⊕ Nat) = code) ∨ (r.1 = -1 ∧ (if k = 1 then 2 else 1) ∈ es ∧ wK es (.inr (if k = 1 then 2 else 1) : Int32 ⊕ Nat) = 1) ∨ (r.1 = -2 ∧ 1 ∈ es ∧ wK es (.inr 1 : Int32 ⊕ Nat) = 2)))
theorem SH.ok {A B : Nat → Int32} {es : List Nat} {code k b : Int32} : SH A es code k (0, b, B) := Or.inl rfl
theorem SH.m1 {A : Nat → Int32} {es : List Nat} {code k b : Int32} (h1 : (if k = 1 then 2 else 1) ∈ es) (h2 : wK es (.inr (if k = 1 then 2 else 1) : Int32 ⊕ Nat) = 1) : SH A es code k (-1, b, A) := Or.inr ⟨rfl, Or.inr (Or.inl ⟨rfl, h1, h2⟩)⟩
theorem SH.m2 {A : Nat → Int32} {es : List Nat} {code k b : Int32} (h1 : 1 ∈ es) (h2 : wK es (.inr 1 : Int32 ⊕ Nat) = 2) : SH A es code k (-2, b, A) := Or.inr ⟨rfl, Or.inr (Or.inr ⟨rfl, h1, h2⟩)⟩
theorem SH.p {A : Nat → Int32} {es : List Nat} {code k a b : Int32} (h0 : 0 < a) (h1 : 4 ∈ es) (h2 : wK es (.inr 4 : Int32 ⊕ Nat) = code) : SH A es code k (a, b, A) := Or.inr ⟨rfl, Or.inl ⟨h0, h1, h2⟩⟩

theorem sh_letter (c : Int32) (A : Nat → Int32) : SH A [1, 4] 2 2 (sLetter c A) := by
  unfold sLetter
  (try split) <;> (try split) <;> (first | exact SH.ok | exact SH.m1 (by decide) (by decide) | exact SH.m2 (by decide) (by decide) | exact SH.p (by decide) (by decide) (by decide))
theorem sh_unletter  (A : Nat → Int32) : SH A [4] 1 1 (sUnletter A) := by
  unfold sUnletter
  (try split) <;> (first | exact SH.ok | exact SH.m1 (by decide) (by decide) | exact SH.m2 (by decide) (by decide) | exact SH.p (by decide) (by decide) (by decide))
theorem sh_away (x : Int32) (A : Nat → Int32) : SH A [2] 2 1 (sAway x A) := by
  unfold sAway
  (try split) <;> (first | exact SH.ok | exact SH.m1 (by decide) (by decide) | exact SH.m2 (by decide) (by decide) | exact SH.p (by decide) (by decide) (by decide))
theorem sh_mood (p m : Int32) (A : Nat → Int32) : SH A [2, 1, 4] 3 1 (sMood p m A) := by
  unfold sMood
  (try split) <;> (try split) <;> (try split) <;> (first | exact SH.ok | exact SH.m1 (by decide) (by decide) | exact SH.m2 (by decide) (by decide) | exact SH.p (by decide) (by decide) (by decide))
theorem sh_pier (p z : Int32) (A : Nat → Int32) : SH A [2, 4] 2 1 (sPier p z A) := by
  unfold sPier
  (try split) <;> (try split) <;> (first | exact SH.ok | exact SH.m1 (by decide) (by decide) | exact SH.m2 (by decide) (by decide) | exact SH.p (by decide) (by decide) (by decide))
theorem sh_tear (x : Int32) (A : Nat → Int32) : SH A [2, 4] 2 1 (sTear x A) := by
  unfold sTear
  (try split) <;> (try split) <;> (first | exact SH.ok | exact SH.m1 (by decide) (by decide) | exact SH.m2 (by decide) (by decide) | exact SH.p (by decide) (by decide) (by decide))
theorem sh_lost (x : Int32) (h : Nat) (v : Int32) (A : Nat → Int32) : SH A [2, 4] 2 1 (sLost x h v A) := by
  unfold sLost
  (try split) <;> (try split) <;> (first | exact SH.ok | exact SH.m1 (by decide) (by decide) | exact SH.m2 (by decide) (by decide) | exact SH.p (by decide) (by decide) (by decide))
theorem sh_punch (x : Int32) (h : Nat) (p : Int32) (A : Nat → Int32) : SH A [2, 4] 2 1 (sPunch x h p A) := by
  unfold sPunch
  (try split) <;> (try split) <;> (try split) <;> (first | exact SH.ok | exact SH.m1 (by decide) (by decide) | exact SH.m2 (by decide) (by decide) | exact SH.p (by decide) (by decide) (by decide))
theorem sh_wet (x : Int32) (h : Nat) (b : Int32) (A : Nat → Int32) : SH A [2, 1] 3 1 (sWet x h b A) := by
  unfold sWet
  (try split) <;> (try split) <;> (first | exact SH.ok | exact SH.m1 (by decide) (by decide) | exact SH.m2 (by decide) (by decide) | exact SH.p (by decide) (by decide) (by decide))
theorem sh_print (g : Nat) (f t c : Int32) (G : Nat → Int32) (A : Nat → Int32) : SH A [2, 1, 4] 3 1 (sPrint g f t c G A) := by
  unfold sPrint
  (try split) <;> (try split) <;> (try split) <;> (try split) <;> (try split) <;> (try split) <;> (try split) <;> (first | exact SH.ok | exact SH.m1 (by decide) (by decide) | exact SH.m2 (by decide) (by decide) | exact SH.p (by decide) (by decide) (by decide))
theorem sh_ride (x : Int32) (h : Nat) (A : Nat → Int32) : SH A [2, 4] 2 1 (sRide x h A) := by
  unfold sRide
  by_cases c : inn x 0 (A 0 - 1) = 0
  · rw [if_pos c]
    exact SH.m1 (by decide) (by decide)
  rw [if_neg c]
  by_cases d : (sHind x.toNatClampNeg h A).1 ≤ 0
  · rw [if_pos d]
    exact SH.ok
  · rw [if_neg d]
    refine SH.p ?_ (by decide) (by decide)
    rw [Int32.le_iff_toInt_le] at d
    rw [Int32.lt_iff_toInt_lt]
    omega
theorem sh_day (A : Nat → Int32) : SH A [] 1 1 (sDay A) := Or.inl rfl
theorem SH.to {A : Nat → Int32} {es : List Nat} {code k : Int32} {r : Out} (hs : SH A es code k r) : (0 < r.1 → 4 ∈ es ∧ wK es (.inr 4 : Int32 ⊕ Nat) = code) ∧ (r.1 = -1 → (if k = 1 then 2 else 1) ∈ es ∧ wK es (.inr (if k = 1 then 2 else 1) : Int32 ⊕ Nat) = 1) ∧ (r.1 = -2 → 1 ∈ es ∧ wK es (.inr 1 : Int32 ⊕ Nat) = 2) := by
  refine ⟨fun h => ?_, fun h => ?_, fun h => ?_⟩
  · rcases hs with z | ⟨-, z | z | z⟩
    · rw [z] at h
      exact absurd h (by decide)
    · exact z.2
    · rw [z.1] at h
      exact absurd h (by decide)
    · rw [z.1] at h
      exact absurd h (by decide)
  · rcases hs with z | ⟨-, z | z | z⟩
    · rw [z] at h
      exact absurd h (by decide)
    · have z1 := z.1
      rw [h] at z1
      exact absurd z1 (by decide)
    · exact z.2
    · have z1 := z.1
      rw [h] at z1
      exact absurd z1 (by decide)
  · rcases hs with z | ⟨-, z | z | z⟩
    · rw [z] at h
      exact absurd h (by decide)
    · have z1 := z.1
      rw [h] at z1
      exact absurd z1 (by decide)
    · have z1 := z.1
      rw [h] at z1
      exact absurd z1 (by decide)
    · exact z.2
theorem KO.dlen {w : FW} {o : Nat} {A : Nat → Int32} (K : KO w o A) : gI w 301 (o + 2) 0 = A 10 := K.2.1.2.2.2.2.2.2.2.2.1.1.trans K.2.2.d.1
theorem KO.ws {w : FW} {o : Nat} {A : Nat → Int32} (K : KO w o A) : WS w (o + 2) := K.1.2.2.2.2.2.2.2.2.2.2.2.1
theorem KO.g {w : FW} {o : Nat} {A : Nat → Int32} (K : KO w o A) : gI w 101 o 0 = A 0 ∧ gI w 105 o 0 = A 1 ∧ gI w 106 o 0 = A 2 ∧ gI w 107 o 0 = A 3 ∧ gI w 108 o 0 = A 4 := ⟨K.2.1.1, K.2.1.2.1, K.2.1.2.2.1, K.2.1.2.2.2.1, K.2.1.2.2.2.2.1⟩
section KACTS
variable {b x : Nat} {w : FW}

theorem n0 {a b : Int32} {B : Nat → Int32} (h : ((a, b, B) : Out).1 = 0) (k : ¬ a = 0) : False := k h
theorem v_letter {c : Int32} {A : Nat → Int32} (h : (sLetter c A).1 = 0) : (sLetter c A).2.2 10 = (sLetter c A).2.1 := by
  unfold sLetter at h ⊢
  split at h
  · exact (n0 h (by decide)).elim
  · split at h
    · exact (n0 h (by decide)).elim
    · rename_i h1 h2
      rw [if_neg h1, if_neg h2]
      show up (up A (11 + (A 10).toNatClampNeg) c) 10 (A 10 + 1) 10 = A 10 + 1
      exact up_s _ _ _
theorem v_unletter {A : Nat → Int32} (h : (sUnletter A).1 = 0) : (sUnletter A).2.2 10 = (sUnletter A).2.1 := by
  unfold sUnletter at h ⊢
  split at h
  · exact (n0 h (by decide)).elim
  · rename_i h1
    rw [if_neg h1]
    show up (up A (10 + (A 10).toNatClampNeg) 0) 10 (A 10 - 1) 10 = A 10 - 1
    exact up_s _ _ _
theorem v_away {x : Int32} {A : Nat → Int32} (h : (sAway x A).1 = 0) : (sAway x A).2.2 0 = (sAway x A).2.1 := by
  unfold sAway at h ⊢
  split at h
  · exact (n0 h (by decide)).elim
  · rename_i h1
    rw [if_neg h1]
    show dropA x.toNatClampNeg (aN A) A 0 = nI (aN A - 1)
    exact if_pos rfl
theorem v_mood {p m : Int32} {A : Nat → Int32} (h : (sMood p m A).1 = 0) : (if inn p 0 2 = 0 then -1 else A (7 + p.toNatClampNeg)) = (sMood p m A).2.1 := by
  unfold sMood at h ⊢
  split at h
  · exact (n0 h (by decide)).elim
  · split at h
    · exact (n0 h (by decide)).elim
    · split at h
      · exact (n0 h (by decide)).elim
      · rename_i h1 h2 h3
        rw [if_neg h1, if_neg h1, if_neg h2, if_neg h3]
theorem v_pier {p z : Int32} {A : Nat → Int32} (h : (sPier p z A).1 = 0) : aOpen (sPier p z A).2.2 = (sPier p z A).2.1 := by
  unfold sPier at h ⊢
  split at h
  · exact (n0 h (by decide)).elim
  · split at h
    · rename_i h1 h2
      rw [if_neg h1, if_pos h2]
    · exact (n0 h (by decide)).elim
theorem v_tear {x : Int32} {A : Nat → Int32} (h : (sTear x A).1 = 0) : aTorn (sTear x A).2.2 = (sTear x A).2.1 := by
  unfold sTear at h ⊢
  split at h
  · exact (n0 h (by decide)).elim
  · split at h
    · exact (n0 h (by decide)).elim
    · rename_i h1 h2
      rw [if_neg h1, if_neg h2]
theorem v_lost {x : Int32} {k : Nat} {v : Int32} {A : Nat → Int32} (h : (sLost x k v A).1 = 0) : aLost (sLost x k v A).2.2 = (sLost x k v A).2.1 := by
  unfold sLost at h ⊢
  split at h
  · exact (n0 h (by decide)).elim
  · split at h
    · exact (n0 h (by decide)).elim
    · rename_i h1 h2
      rw [if_neg h1, if_neg h2]
theorem v_ride {x : Int32} {k : Nat} {A : Nat → Int32} (h : (sRide x k A).1 = 0) : (sRide x k A).2.2 3 + (sRide x k A).2.2 4 = (sRide x k A).2.1 := by
  unfold sRide at h ⊢
  split at h
  · exact (n0 h (by decide)).elim
  · split at h
    · rename_i h1 h2
      rw [if_neg h1, if_pos h2]
    · rename_i h1 h2
      exact absurd (show (sHind x.toNatClampNeg k A).1 ≤ 0 by rw [show (sHind x.toNatClampNeg k A).1 = 0 from h]; decide) h2
theorem aHolesOf_5 (B : Nat → Int32) (v : Int32) (t k : Nat) : aHolesOf (up B 5 v) t k = aHolesOf B t k := by
  unfold aHolesOf
  rw [aLen_n (by omega)]
  refine cnt_congr (fun j hj => ?_)
  unfold aHoles
  rw [aL_n (by omega), aH_n (by omega)]
theorem v_punch {x : Int32} {k : Nat} {p : Int32} {A : Nat → Int32} (hA : WA A) (h : (sPunch x k p A).1 = 0) : ∃ t, t < aN (sPunch x k p A).2.2 ∧ x = nI t ∧ aHolesOf (sPunch x k p A).2.2 t k = (sPunch x k p A).2.1 := by
  obtain ⟨hn, h8, hT⟩ := hA.n
  unfold sPunch at h ⊢
  rcases tick_cases x h8 with ⟨t, ht, rfl, hi⟩ | hi
  · rw [hn, hi, if_neg (show ¬ (1 : Int32) = 0 by decide), nI_clamp (by omega)] at h ⊢
    by_cases hp : inn p 0 2 = 0
    · rw [if_pos hp] at h
      exact (n0 h (by decide)).elim
    rw [if_neg hp] at h ⊢
    by_cases c : aH A t k 0 = -1
    · rw [if_pos c]
      refine ⟨t, ?_, rfl, ?_⟩
      · show t < aN (up (up A (iH t k 0) (A (7 + p.toNatClampNeg))) 5 _)
        rw [aN_up (by omega), aN_up (by unfold iH; omega)]
        exact ht
      · show aHolesOf (up (up A (iH t k 0) (A (7 + p.toNatClampNeg))) 5 _) t k = aHolesOf (up A (iH t k 0) (A (7 + p.toNatClampNeg))) t k
        exact aHolesOf_5 _ _ _ _
    · rw [if_neg c] at h
      exact (n0 h (by decide)).elim
  · rw [hn, hi, if_pos rfl] at h
    exact (n0 h (by decide)).elim
theorem wetB_0 (t k : Nat) (b : Int32) (A : Nat → Int32) : wetB t k b A 0 = A 0 := by
  have e1 : ∀ B : Nat → Int32, ∀ k' b', wetA t k' b' B 0 = B 0 := fun B k' b' => up_n (by unfold iH; omega)
  unfold wetB
  split
  · split
    · rw [up_n (by omega), e1, e1]
    · split
      · rw [e1, e1]
      · rw [up_n (by omega), e1, e1]
  · exact e1 _ _ _
theorem v_wet {x : Int32} {k : Nat} {c : Int32} {A : Nat → Int32} (hA : WA A) (h : (sWet x k c A).1 = 0) : ∃ t, t < aN (sWet x k c A).2.2 ∧ x = nI t ∧ aH (sWet x k c A).2.2 t k 1 = (sWet x k c A).2.1 := by
  obtain ⟨hn, h8, hT⟩ := hA.n
  unfold sWet at h ⊢
  rcases tick_cases x h8 with ⟨t, ht, rfl, hi⟩ | hi
  · rw [hn, hi, if_neg (show ¬ (1 : Int32) = 0 by decide), nI_clamp (by omega)] at h ⊢
    by_cases hp : inn c 1 9 = 0
    · rw [if_pos hp] at h
      exact (n0 h (by decide)).elim
    rw [if_neg hp]
    refine ⟨t, ?_, rfl, rfl⟩
    show t < (wetB t k c A 0).toNatClampNeg
    rw [wetB_0]
    exact ht
  · rw [hn, hi, if_pos rfl] at h
    exact (n0 h (by decide)).elim

end KACTS
theorem v_print {g : Nat} {f t c : Int32} {G A : Nat → Int32} (hn : A 0 = nI (aN A)) (h : (sPrint g f t c G A).1 = 0) : (sPrint g f t c G A).2.2 0 - 1 = (sPrint g f t c G A).2.1 := by
  unfold sPrint at h ⊢
  by_cases c0 : inn f 0 4 = 0
  · rw [if_pos c0] at h
    exact (n0 h (by decide)).elim
  rw [if_neg c0] at h ⊢
  by_cases c1 : inn t 0 4 = 0
  · rw [if_pos c1] at h
    exact (n0 h (by decide)).elim
  rw [if_neg c1] at h ⊢
  by_cases c2 : f = t
  · rw [if_pos c2] at h
    exact (n0 h (by decide)).elim
  rw [if_neg c2] at h ⊢
  by_cases c3 : inn c 1 9 = 0
  · rw [if_pos c3] at h
    exact (n0 h (by decide)).elim
  rw [if_neg c3] at h ⊢
  by_cases c4 : nI g < 2
  · rw [if_pos c4] at h
    exact (n0 h (by decide)).elim
  rw [if_neg c4] at h ⊢
  by_cases c5 : gVow G g = 0
  · rw [if_pos c5] at h
    exact (n0 h (by decide)).elim
  rw [if_neg c5] at h ⊢
  by_cases c6 : A 0 = 8
  · rw [if_pos c6] at h
    exact (n0 h (by decide)).elim
  rw [if_neg c6] at h ⊢
  show printA (aN A) g f t c G A 0 - 1 = A 0
  rw [pr_0, nI_pred, hn]
theorem fg_bind {α β : Type} {P : Prop} {i : Decidable P} {o : Option α} {k : α → Option β} : (fg P i o).bind k = fg P i (o.bind k) := by
  unfold fg
  split <;> rfl
theorem prD {d : Nat} {f t c : Int32} {A : Nat → Int32} : (sPrintD d f t c A).1 = (sPrint d f t c (fun k => A (10 + k)) A).1 ∧ (¬ (sPrint d f t c (fun k => A (10 + k)) A).1 = 0 → sPrintD d f t c A = sPrint d f t c (fun k => A (10 + k)) A) ∧ ((sPrint d f t c (fun k => A (10 + k)) A).1 = 0 → sPrintD d f t c A = (0, (sPrint d f t c (fun k => A (10 + k)) A).2.1, zrA 10 7 (sPrint d f t c (fun k => A (10 + k)) A).2.2)) := by
  by_cases h : (sPrint d f t c (fun k => A (10 + k)) A).1 = 0
  · have e : sPrintD d f t c A = (0, (sPrint d f t c (fun k => A (10 + k)) A).2.1, zrA 10 7 (sPrint d f t c (fun k => A (10 + k)) A).2.2) := if_pos h
    exact ⟨by rw [e, h], fun z => absurd h z, fun _ => e⟩
  · have e : sPrintD d f t c A = sPrint d f t c (fun k => A (10 + k)) A := if_neg h
    exact ⟨by rw [e], fun _ => e, fun z => absurd z h⟩
theorem c_noDraft {w : FW} {o : Nat} {A : Nat → Int32} (K : KO w o A) : Fr w (sI w 301 (o + 2) 0 0) (bl o 46) ∧ OS (sI w 301 (o + 2) 0 0) o ∧ OR (sI w 301 (o + 2) 0 0) o (zrA 10 7 A) := by
  have W := K.ws
  have z := OR.draft (A' := zrA 10 7 A) K (Fr.sI w 301 (o + 2) 0 0 (bl_in (by omega) (by omega))) ⟨W.1, W.2.1, W.2.2.1, W.2.2.2.1, fun k hk => by rw [gI_sI, if_neg (by omega)]; exact W.2.2.2.2 k hk⟩ (fun i hi => if_neg (by omega)) (fun i hi => if_neg (by omega)) ⟨?_, fun k hk => ?_⟩
  · exact ⟨Fr.sI w 301 (o + 2) 0 0 (bl_in (by omega) (by omega)), z⟩
  · rw [gI_s]
    rfl
  · have e : (zrA 10 7 A 10).toNatClampNeg = 0 := by
      rw [show zrA 10 7 A 10 = 0 from if_pos (by omega)]
      rfl
    omega
