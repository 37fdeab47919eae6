/-! The law's acts, what they leave -/
section ACT
variable {w : FW} {x n b : Nat} {A H S : Nat → Int32} {sv : Int32}
theorem vl_punch (hA : WA A) (x : Int32) {h : Nat} (hh : h < 2) (p : Int32) (h0 : (sPunch x h p A).1 = 0) : ∃ k, k < 2000000 ∧ (sPunch x h p A).2.1 = nI k := by
  have hG := g_punch hA x hh p
  unfold sPunch at h0 hG ⊢
  by_cases a1 : inn x 0 (A 0 - 1) = 0
  · rw [if_pos a1] at h0
    exact absurd h0 (show ¬ (-1 : Int32) = 0 by decide)
  by_cases a2 : inn p 0 2 = 0
  · rw [if_neg a1, if_pos a2] at h0
    exact absurd h0 (show ¬ (-1 : Int32) = 0 by decide)
  obtain ⟨t, t1, t2⟩ := inn_t_ex hA a1
  rw [t2] at h0 hG ⊢
  by_cases a3 : ¬ aH A t h 0 = -1
  · rw [if_neg a1, if_neg a2, if_neg a3] at h0
    exact absurd h0 (show ¬ (3 : Int32) = 0 by decide)
  rw [Classical.not_not] at a3
  rw [if_neg a1, if_neg a2, if_pos a3] at hG ⊢
  have hB := hG.1
  obtain ⟨j, -, j1, j2⟩ := inn_1 (a := 0) (b := 2) (by decide) (by decide) a2
  obtain ⟨m, m1, m2⟩ := hA.2.2.1 j (by omega)
  rw [j2, nI_clamp (by omega), m2] at hB ⊢
  change WA (up (up A (iH t h 0) (nI m)) 5 (A 5 + aHolesOf (up A (iH t h 0) (nI m)) t h)) at hB
  show ∃ k, k < 2000000 ∧ aHolesOf (up A (iH t h 0) (nI m)) t h = nI k
  have eQ : up (up A (iH t h 0) (nI m)) 5 (A 5 + aHolesOf (up A (iH t h 0) (nI m)) t h) (iH t h 0) = nI m := by
    rw [up_n (by unfold iH; omega), up_s]
  have e0 : up (up A (iH t h 0) (nI m)) 5 (A 5 + aHolesOf (up A (iH t h 0) (nI m)) t h) 0 = A 0 := by
    rw [up_n (by omega), up_n (by unfold iH; omega)]
  rw [← holes_cg (A := up A (iH t h 0) (nI m)) (B := up (up A (iH t h 0) (nI m)) 5 (A 5 + aHolesOf (up A (iH t h 0) (nI m)) t h)) (fun i hi => up_n (by omega))]
  generalize up (up A (iH t h 0) (nI m)) 5 (A 5 + aHolesOf (up A (iH t h 0) (nI m)) t h) = B at *
  have eN : aN B = aN A := by unfold aN; rw [e0]
  have hTB := hB.n.2.2 t (by rw [eN]; exact t1)
  have eq : aH B t h 0 = nI m := eQ
  have ne : ¬ aH B t h 0 = -1 := fun z => nI_pos (n := m) (by omega) (by rw [← eq, z]; decide)
  obtain ⟨m', g, m1', g1, m2', g2⟩ := half_mg hTB hh ne
  obtain ⟨f1, f2, f3, f4, f5, f6, f7, f8, f9⟩ := half_n hTB hh ne g2 g1
  have hV6 : nV B t ≤ aLen B t := vow_le hTB
  have hL6 := hTB.len.2
  exact ⟨_, by omega, f1⟩
theorem vl_print (hA : WA A) (g : Nat) (f t c : Int32) (G : Nat → Int32) (h0 : (sPrint g f t c G A).1 = 0) : (sPrint g f t c G A).2.1 = A 0 := by
  unfold sPrint at h0 ⊢
  by_cases a1 : inn f 0 4 = 0
  · rw [if_pos a1] at h0
    exact absurd h0 (show ¬ (-1 : Int32) = 0 by decide)
  rw [if_neg a1] at h0 ⊢
  by_cases a2 : inn t 0 4 = 0
  · rw [if_pos a2] at h0
    exact absurd h0 (show ¬ (-1 : Int32) = 0 by decide)
  rw [if_neg a2] at h0 ⊢
  by_cases a3 : f = t
  · rw [if_pos a3] at h0
    exact absurd h0 (show ¬ (-2 : Int32) = 0 by decide)
  rw [if_neg a3] at h0 ⊢
  by_cases a4 : inn c 1 9 = 0
  · rw [if_pos a4] at h0
    exact absurd h0 (show ¬ (-2 : Int32) = 0 by decide)
  rw [if_neg a4] at h0 ⊢
  by_cases a5 : nI g < 2
  · rw [if_pos a5] at h0
    exact absurd h0 (show ¬ (2 : Int32) = 0 by decide)
  rw [if_neg a5] at h0 ⊢
  by_cases a6 : gVow G g = 0
  · rw [if_pos a6] at h0
    exact absurd h0 (show ¬ (2 : Int32) = 0 by decide)
  rw [if_neg a6] at h0 ⊢
  by_cases a7 : A 0 = 8
  · rw [if_pos a7] at h0
    exact absurd h0 (show ¬ (1 : Int32) = 0 by decide)
  rw [if_neg a7]
theorem vl_printD (hA : WA A) (d : Nat) (f t c : Int32) (h0 : (sPrintD d f t c A).1 = 0) : ∃ k, k < 2000000 ∧ (sPrintD d f t c A).2.1 = nI k := by
  have h8 := hA.n.2.1
  unfold sPrintD at h0 ⊢
  by_cases a : (sPrint d f t c (fun k => A (10 + k)) A).1 = 0
  · rw [if_pos a]
    exact ⟨aN A, by omega, (vl_print hA d f t c _ a).trans hA.n.1⟩
  · rw [if_neg a] at h0
    exact absurd h0 a
theorem gt74 {k : Nat} (h : k < 2000000) : ¬ nI k ≤ -74 := by
  rw [Int32.le_iff_toInt_le, nI_toInt (by omega)]
  have : (-74 : Int32).toInt = -74 := by decide
  omega
/-- the day is at most b -/
def DB (b : Nat) (A : Nat → Int32) : Prop := ∃ d, d ≤ b ∧ A 1 = nI d
theorem DB.to {B : Nat → Int32} (h : DB b A) (e : B 1 = A 1) : DB (b + 1) B := by
  obtain ⟨d, d1, d2⟩ := h
  exact ⟨d, by omega, e.trans d2⟩
/-- what the law's act leaves: done and kept, or refused and nothing changed -/
def AR (w : FW) (x b n : Nat) (A H : Nat → Int32) (sv : Int32) (S : Nat → Int32) (r : Int32) (w' : FW) : Prop :=
  (¬ r ≤ -74 ∧ (∃ A', CR w' x A' (if n = 8 then 8 else n + 1) (hPush n A H) sv S ∧ IV b A' ∧ DB b A') ∨ r ≤ -74 ∧ CR w' x A n H sv S) ∧ gI w' 408 x 0 = gI w 408 x 0 ∧ w'.1 = w.1
theorem AR.ok {w' : FW} {r : Out} {v : Int32} (C : CR w' x r.2.2 (if n = 8 then 8 else n + 1) (hPush n A H) sv S) (hI : IV b r.2.2) (hD : DB b r.2.2) (hv : ∃ k, k < 2000000 ∧ v = nI k) (K : KR w w' x) : AR w x b n A H sv S v w' := by
  obtain ⟨k, k1, k2⟩ := hv
  rw [k2]
  exact ⟨Or.inl ⟨gt74 k1, _, C, hI, hD⟩, K.1 408 (by decide) (by decide) (by decide), K.2.2.1⟩
theorem AR.no {w' : FW} {v : Int32} (C : CR w' x A n H sv S) (hv : v ≤ -74) (K : KR w w' x) : AR w x b n A H sv S v w' :=
  ⟨Or.inr ⟨hv, C⟩, K.1 408 (by decide) (by decide) (by decide), K.2.2.1⟩
theorem a_letter (C : CR w x A n H sv S) (hI : IV b A) (hy : DB b A) (c : Int32) : ∃ r w', F_L_letter x c w = some (r, w') ∧ AR w x (b + 1) n A H sv S r w' := by
  have hA := C.2.2.1
  unfold F_L_letter
  rcases p_letter C c with ⟨h0, w', e, C', K⟩ | ⟨h0, q, w', e, he, C', K, k1, k2⟩
  · rw [fg_t C.1.1, e, Option.bind_some]
    exact ⟨_, _, rfl, AR.ok C' (iv_letter hI hA c h0) (hy.to (g_letter hA c).2) (vl_letter hA c h0) K⟩
  · rw [fg_t C.1.1, e, Option.bind_some]
    simp only [List.mem_cons, List.mem_nil_iff, or_false] at he
    rcases he with rfl | rfl
    · exact ⟨_, _, rfl, AR.no C' (by decide) K⟩
    · exact ⟨_, _, rfl, AR.no C' (by decide) K⟩
theorem a_unletter (C : CR w x A n H sv S) (hI : IV b A) (hy : DB b A)  : ∃ r w', F_L_unletter x  w = some (r, w') ∧ AR w x (b + 1) n A H sv S r w' := by
  have hA := C.2.2.1
  unfold F_L_unletter
  rcases p_unletter C with ⟨h0, w', e, C', K⟩ | ⟨h0, q, w', e, he, C', K, k1, k2⟩
  · rw [fg_t C.1.1, e, Option.bind_some]
    exact ⟨_, _, rfl, AR.ok C' (iv_unletter hI hA h0) (hy.to (g_unletter hA).2) (vl_unletter hA h0) K⟩
  · rw [fg_t C.1.1, e, Option.bind_some]
    simp only [List.mem_cons, List.mem_nil_iff, or_false] at he
    subst he
    exact ⟨_, _, rfl, AR.no C' (by decide) K⟩
theorem a_throwAway (C : CR w x A n H sv S) (hI : IV b A) (hy : DB b A) (a : Int32) : ∃ r w', F_L_throwAway x a w = some (r, w') ∧ AR w x (b + 1) n A H sv S r w' := by
  have hA := C.2.2.1
  unfold F_L_throwAway
  rcases p_away C a with ⟨h0, w', e, C', K⟩ | ⟨h0, q, w', e, he, C', K, k1, k2⟩
  · rw [fg_t C.1.1, e, Option.bind_some]
    exact ⟨_, _, rfl, AR.ok C' (iv_away hI hA a h0) (hy.to (g_away hA a).2) (vl_away hA a h0) K⟩
  · rw [fg_t C.1.1, e, Option.bind_some]
    simp only [List.mem_cons, List.mem_nil_iff, or_false] at he
    subst he
    exact ⟨_, _, rfl, AR.no C' (by decide) K⟩
theorem a_pier (C : CR w x A n H sv S) (hI : IV b A) (hy : DB b A) (p z : Int32) : ∃ r w', F_L_pier x p (zz z) w = some (r, w') ∧ AR w x (b + 1) n A H sv S r w' := by
  have hA := C.2.2.1
  unfold F_L_pier
  rcases p_pier C p z with ⟨h0, w', e, C', K⟩ | ⟨h0, q, w', e, he, C', K, k1, k2⟩
  · rw [fg_t C.1.1, e, Option.bind_some]
    exact ⟨_, _, rfl, AR.ok C' (iv_pier hI hA p (zz z) h0) (hy.to (g_pier hA p (zz z)).2) (vl_pier p (zz z) h0) K⟩
  · rw [fg_t C.1.1, e, Option.bind_some]
    simp only [List.mem_cons, List.mem_nil_iff, or_false] at he
    rcases he with rfl | rfl
    · exact ⟨_, _, rfl, AR.no C' (by decide) K⟩
    · exact ⟨_, _, rfl, AR.no C' (by decide) K⟩
theorem a_tear (C : CR w x A n H sv S) (hI : IV b A) (hy : DB b A) (a : Int32) : ∃ r w', F_L_tear x a w = some (r, w') ∧ AR w x (b + 1) n A H sv S r w' := by
  have hA := C.2.2.1
  unfold F_L_tear
  rcases p_tear C a with ⟨h0, w', e, C', K⟩ | ⟨h0, q, w', e, he, C', K, k1, k2⟩
  · rw [fg_t C.1.1, e, Option.bind_some]
    exact ⟨_, _, rfl, AR.ok C' (iv_tear hI hA a h0) (hy.to (g_tear hA a).2) (vl_tear hA a h0) K⟩
  · rw [fg_t C.1.1, e, Option.bind_some]
    simp only [List.mem_cons, List.mem_nil_iff, or_false] at he
    rcases he with rfl | rfl
    · exact ⟨_, _, rfl, AR.no C' (by decide) K⟩
    · exact ⟨_, _, rfl, AR.no C' (by decide) K⟩
theorem a_lose (C : CR w x A n H sv S) (hI : IV b A) (hy : DB b A) (a z : Int32) {h : Nat} (hh : h < 2) (hz : zz (zz z) = nI h) : ∃ r w', F_L_lose x a (zz z) w = some (r, w') ∧ AR w x (b + 1) n A H sv S r w' := by
  have hA := C.2.2.1
  unfold F_L_lose
  rcases p_lose C a z hh hz with ⟨h0, w', e, C', K⟩ | ⟨h0, q, w', e, he, C', K, k1, k2⟩
  · rw [fg_t C.1.1, e, Option.bind_some]
    exact ⟨_, _, rfl, AR.ok C' (iv_lost hI hA a hh 1 h0) (hy.to (g_lost hA a hh (Or.inr rfl)).2) (vl_lost hA a hh (Or.inr rfl) h0) K⟩
  · rw [fg_t C.1.1, e, Option.bind_some]
    simp only [List.mem_cons, List.mem_nil_iff, or_false] at he
    rcases he with rfl | rfl
    · exact ⟨_, _, rfl, AR.no C' (by decide) K⟩
    · exact ⟨_, _, rfl, AR.no C' (by decide) K⟩
theorem a_find (C : CR w x A n H sv S) (hI : IV b A) (hy : DB b A) (a z : Int32) {h : Nat} (hh : h < 2) (hz : zz (zz z) = nI h) : ∃ r w', F_L_find x a (zz z) w = some (r, w') ∧ AR w x (b + 1) n A H sv S r w' := by
  have hA := C.2.2.1
  unfold F_L_find
  rcases p_find C a z hh hz with ⟨h0, w', e, C', K⟩ | ⟨h0, q, w', e, he, C', K, k1, k2⟩
  · rw [fg_t C.1.1, e, Option.bind_some]
    exact ⟨_, _, rfl, AR.ok C' (iv_lost hI hA a hh 0 h0) (hy.to (g_lost hA a hh (Or.inl rfl)).2) (vl_lost hA a hh (Or.inl rfl) h0) K⟩
  · rw [fg_t C.1.1, e, Option.bind_some]
    simp only [List.mem_cons, List.mem_nil_iff, or_false] at he
    rcases he with rfl | rfl
    · exact ⟨_, _, rfl, AR.no C' (by decide) K⟩
    · exact ⟨_, _, rfl, AR.no C' (by decide) K⟩
theorem a_punch (C : CR w x A n H sv S) (hI : IV b A) (hy : DB b A) (a z p : Int32) {h : Nat} (hh : h < 2) (hz : zz (zz z) = nI h) : ∃ r w', F_L_punch x a (zz z) p w = some (r, w') ∧ AR w x (b + 1) n A H sv S r w' := by
  have hA := C.2.2.1
  unfold F_L_punch
  rcases p_punch C a z p hh hz with ⟨h0, w', e, C', K⟩ | ⟨h0, q, w', e, he, C', K, k1, k2⟩
  · rw [fg_t C.1.1, e, Option.bind_some]
    exact ⟨_, _, rfl, AR.ok C' (iv_punch hI hA a hh p h0) (hy.to (g_punch hA a hh p).2) (vl_punch hA a hh p h0) K⟩
  · rw [fg_t C.1.1, e, Option.bind_some]
    simp only [List.mem_cons, List.mem_nil_iff, or_false] at he
    rcases he with rfl | rfl
    · exact ⟨_, _, rfl, AR.no C' (by decide) K⟩
    · exact ⟨_, _, rfl, AR.no C' (by decide) K⟩
theorem a_wet (C : CR w x A n H sv S) (hI : IV b A) (hy : DB b A) (a z p : Int32) {h : Nat} (hh : h < 2) (hz : zz (zz z) = nI h) : ∃ r w', F_L_wet x a (zz z) p w = some (r, w') ∧ AR w x (b + 1) n A H sv S r w' := by
  have hA := C.2.2.1
  unfold F_L_wet
  rcases p_wet C a z p hh hz with ⟨h0, w', e, C', K⟩ | ⟨h0, q, w', e, he, C', K, k1, k2⟩
  · rw [fg_t C.1.1, e, Option.bind_some]
    exact ⟨_, _, rfl, AR.ok C' (iv_wet hI hA a hh p h0) (hy.to (g_wet hA a hh p).2) (vl_wet hA a hh p h0) K⟩
  · rw [fg_t C.1.1, e, Option.bind_some]
    simp only [List.mem_cons, List.mem_nil_iff, or_false] at he
    rcases he with rfl | rfl
    · exact ⟨_, _, rfl, AR.no C' (by decide) K⟩
    · exact ⟨_, _, rfl, AR.no C' (by decide) K⟩
theorem a_mood (C : CR w x A n H sv S) (hI : IV b A) (hy : DB b A) (p m : Int32) : ∃ r w', F_L_mood x p m w = some (r, w') ∧ AR w x (b + 1) n A H sv S r w' := by
  have hA := C.2.2.1
  unfold F_L_mood
  rcases p_mood C p m with ⟨h0, w', e, C', K⟩ | ⟨h0, q, w', e, he, C', K, k1, k2⟩
  · rw [fg_t C.1.1, e, Option.bind_some]
    exact ⟨_, _, rfl, AR.ok C' (iv_mood hI hA p m h0) (hy.to (g_mood hA p m).2) (vl_mood hA p m h0) K⟩
  · rw [fg_t C.1.1, e, Option.bind_some]
    simp only [List.mem_cons, List.mem_nil_iff, or_false] at he
    rcases he with rfl | rfl | rfl
    · exact ⟨_, _, rfl, AR.no C' (by decide) K⟩
    · exact ⟨_, _, rfl, AR.no C' (by decide) K⟩
    · exact ⟨_, _, rfl, AR.no C' (by decide) K⟩
theorem a_print (C : CR w x A n H sv S) (hI : IV b A) (hy : DB b A) (f t c : Int32) : ∃ r w', F_L_print x f t c w = some (r, w') ∧ AR w x (b + 1) n A H sv S r w' := by
  have hA := C.2.2.1
  obtain ⟨dd, hd6, hd, -⟩ := hA.2.1
  have hcl : (A 10).toNatClampNeg = dd := by rw [hd, nI_clamp (by omega)]
  unfold F_L_print
  rcases p_print C f t c with ⟨h0, w', e, C', K⟩ | ⟨h0, q, w', e, he, C', K, k1, k2⟩
  · rw [hcl] at h0 C' e
    rw [fg_t C.1.1, e, Option.bind_some]
    exact ⟨_, _, rfl, AR.ok C' (iv_printD hI hA hd hd6 f t c h0) (hy.to (g_printD hA hd hd6 f t c).2) (vl_printD hA _ f t c h0) K⟩
  · rw [fg_t C.1.1, e, Option.bind_some]
    simp only [List.mem_cons, List.mem_nil_iff, or_false] at he
    rcases he with rfl | rfl | rfl
    · exact ⟨_, _, rfl, AR.no C' (by decide) K⟩
    · exact ⟨_, _, rfl, AR.no C' (by decide) K⟩
    · exact ⟨_, _, rfl, AR.no C' (by decide) K⟩
theorem a_day (C : CR w x A n H sv S) (hI : IV b A) (hy : DB b A) (h9 : b < 99900) : ∃ r w', F_X4_day x w = some (.inl r, w') ∧ AR w x (b + 1) n A H sv S r w' := by
  have hA := C.2.2.1
  obtain ⟨d, d1, hd⟩ := hy
  rcases p_day C hd (by omega) with ⟨h0, w', e, C', K⟩ | ⟨h0, q, w', e, he, C', K, k1, k2⟩
  · exact ⟨_, _, e, AR.ok C' (iv_day hI hA) ⟨d + 1, by omega, by show up A 1 (A 1 + 1) 1 = _; rw [up_s, hd, nI_1]⟩ (vl_day hA) K⟩
  · exact absurd rfl h0
end ACT
