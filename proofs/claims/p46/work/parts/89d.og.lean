/-! An order that is well formed is one of the twelve -/
section OGX
variable {f : Nat → Int32} {L : Nat}
theorem fold_c {s : Int32} {l : List Int32} {p q : Nat} (h : (s :: l).foldl (pst f L) (.inl p) = .inl q) : ¬ fitN f L s p = 0 ∧ l.foldl (pst f L) (.inl (p + fitN f L s p)) = .inl q := by
  rw [List.foldl_cons] at h
  by_cases c : fitN f L s p = 0
  · rw [pst_0 c, fold_r] at h
    exact absurd h (fun z => nomatch z)
  · rw [pst_1 c] at h
    exact ⟨c, h⟩
theorem fold_e {p q : Nat} (h : ([] : List Int32).foldl (pst f L) (.inl p) = .inl q) : q = p := (Sum.inl.inj h).symm
theorem fx_lit {s : Int32} {p : Nat} (h1 : ¬ s = 33) (h2 : ¬ s = 35) (h3 : ¬ s = 64) (h4 : ¬ s = 104) (h : ¬ fitN f L s p = 0) : f p = s ∧ fitN f L s p = 1 := by
  unfold fitN at h ⊢
  by_cases c : p < L
  · rw [if_pos c, if_neg h1, if_neg h2, if_neg h3, if_neg h4] at h ⊢
    by_cases d : f p = s
    · rw [if_pos d]
      exact ⟨d, rfl⟩
    · rw [if_neg d] at h
      exact absurd rfl h
  · rw [if_neg c] at h
    exact absurd rfl h
theorem fx_dig {p : Nat} (h : ¬ fitN f L 35 p = 0) : fitN f L 35 p = 1 ∧ ∃ d, d < 10 ∧ f p - 48 = nI d := by
  obtain ⟨p', e, e2, e3, e4, d, d1, d2⟩ := dig_inv (pst_1 h)
  obtain rfl := Sum.inl.inj e
  exact ⟨by omega, d, d1, d2⟩
theorem fx_hlf {p : Nat} (h : ¬ fitN f L 104 p = 0) : fitN f L 104 p = 1 := by
  unfold fitN at h ⊢
  by_cases c : p < L
  · rw [if_pos c, if_neg (show ¬ (104 : Int32) = 33 by decide), if_neg (show ¬ (104 : Int32) = 35 by decide), if_neg (show ¬ (104 : Int32) = 64 by decide), if_pos rfl] at h ⊢
    by_cases a : f p = 111
    · rw [if_pos a]
    · rw [if_neg a] at h ⊢
      by_cases b : f p = 114
      · rw [if_pos b]
      · rw [if_neg b] at h
        exact absurd rfl h
  · rw [if_neg c] at h
    exact absurd rfl h
theorem fx_wrd {p : Nat} (h : ¬ fitN f L 64 p = 0) : fitN f L 64 p = lf f L p := by
  unfold fitN at h ⊢
  by_cases c : p < L
  · rw [if_pos c, if_neg (show ¬ (64 : Int32) = 33 by decide), if_neg (show ¬ (64 : Int32) = 35 by decide), if_pos rfl]
  · rw [if_neg c] at h
    exact absurd rfl h
theorem shp_l (c : Int32) : shp c = 1 ∨ (c, shp c) ∈ ([(99, 10), (100, 13), (102, 7), (103, 8), (108, 6), (109, 9), (110, 2), (111, 11), (112, 3), (116, 5), (119, 4), (120, 12)] : List (Int32 × Nat)) := by
  by_cases h99 : c = 99
  · subst h99
    exact Or.inr (by decide)
  by_cases h100 : c = 100
  · subst h100
    exact Or.inr (by decide)
  by_cases h101 : c = 101
  · subst h101
    exact Or.inl (by decide)
  by_cases h102 : c = 102
  · subst h102
    exact Or.inr (by decide)
  by_cases h103 : c = 103
  · subst h103
    exact Or.inr (by decide)
  by_cases h104 : c = 104
  · subst h104
    exact Or.inl (by decide)
  by_cases h105 : c = 105
  · subst h105
    exact Or.inl (by decide)
  by_cases h106 : c = 106
  · subst h106
    exact Or.inl (by decide)
  by_cases h107 : c = 107
  · subst h107
    exact Or.inl (by decide)
  by_cases h108 : c = 108
  · subst h108
    exact Or.inr (by decide)
  by_cases h109 : c = 109
  · subst h109
    exact Or.inr (by decide)
  by_cases h110 : c = 110
  · subst h110
    exact Or.inr (by decide)
  by_cases h111 : c = 111
  · subst h111
    exact Or.inr (by decide)
  by_cases h112 : c = 112
  · subst h112
    exact Or.inr (by decide)
  by_cases h113 : c = 113
  · subst h113
    exact Or.inl (by decide)
  by_cases h114 : c = 114
  · subst h114
    exact Or.inl (by decide)
  by_cases h115 : c = 115
  · subst h115
    exact Or.inl (by decide)
  by_cases h116 : c = 116
  · subst h116
    exact Or.inr (by decide)
  by_cases h117 : c = 117
  · subst h117
    exact Or.inl (by decide)
  by_cases h118 : c = 118
  · subst h118
    exact Or.inl (by decide)
  by_cases h119 : c = 119
  · subst h119
    exact Or.inr (by decide)
  by_cases h120 : c = 120
  · subst h120
    exact Or.inr (by decide)
  unfold shp
  rw [if_neg h99, if_neg h100, if_neg h101, if_neg h102, if_neg h103, if_neg h104, if_neg h105, if_neg h106, if_neg h107, if_neg h108, if_neg h109, if_neg h110, if_neg h111, if_neg h112, if_neg h113, if_neg h114, if_neg h115, if_neg h116, if_neg h117, if_neg h118, if_neg h119, if_neg h120]
  exact Or.inl rfl
/-- what is told of the order at p -/
def tO (f : Nat → Int32) (L p q i : Nat) : Nat → Int32 := fun n => if n = 4 * i then f p else if n = 4 * i + 1 then (if f p = 110 then f (p + lf f L (p + 1) + 2) - 48 else f (p + 1) - 48) else if n = 4 * i + 2 then (if f p = 110 then f (p + lf f L (p + 1) + 4) - 48 else if f p = 109 then f (p + 3) - 48 else if f (p + 2) = 114 then 1 else 0) else if f p = 110 then nI (p + 1) + 100 * (f (p + lf f L (p + 1) + 6) - 48) else f (p + 4) - 48
theorem tO_0 (p q i : Nat) : tO f L p q i (4 * i) = f p := if_pos rfl
theorem tO_1 (p q i : Nat) : tO f L p q i (4 * i + 1) = (if f p = 110 then f (p + lf f L (p + 1) + 2) - 48 else f (p + 1) - 48) := by
  unfold tO
  rw [if_neg (by omega), if_pos rfl]
theorem tO_2 (p q i : Nat) : tO f L p q i (4 * i + 2) = (if f p = 110 then f (p + lf f L (p + 1) + 4) - 48 else if f p = 109 then f (p + 3) - 48 else if f (p + 2) = 114 then 1 else 0) := by
  unfold tO
  rw [if_neg (by omega), if_neg (by omega), if_pos rfl]
theorem tO_3 (p q i : Nat) : tO f L p q i (4 * i + 3) = (if f p = 110 then nI (p + 1) + 100 * (f (p + lf f L (p + 1) + 6) - 48) else f (p + 4) - 48) := by
  unfold tO
  rw [if_neg (by omega), if_neg (by omega), if_neg (by omega)]
theorem eoo_p {p q n : Nat} (hp : p < L) (hs : shp (f p) = n) (h : eoo f L p = .inl q) : (fByt.getD n []).foldl (pst f L) (.inl p) = .inl q := by
  unfold eoo shN' at h
  rw [if_pos hp, hs] at h
  exact h

theorem OG_ex {p q : Nat} (hp : p < L) (h : eoo f L p = .inl q) (i : Nat) : OG f L p q (tO f L p q i) i := by
  rcases shp_l (f p) with hs | hm
  · have k := eoo_p hp hs h
    change ([33] : List Int32).foldl _ _ = _ at k
    obtain ⟨c1, k⟩ := fold_c k
    refine absurd ?_ c1
    unfold fitN
    rw [if_pos hp, if_pos rfl]
  simp only [List.mem_cons, Prod.mk.injEq, List.mem_nil_iff, or_false] at hm
  rcases hm with ⟨hc, hs⟩ | ⟨hc, hs⟩ | ⟨hc, hs⟩ | ⟨hc, hs⟩ | ⟨hc, hs⟩ | ⟨hc, hs⟩ | ⟨hc, hs⟩ | ⟨hc, hs⟩ | ⟨hc, hs⟩ | ⟨hc, hs⟩ | ⟨hc, hs⟩ | ⟨hc, hs⟩
  · have k := eoo_p hp hs h
    change ([99, 35] : List Int32).foldl _ _ = _ at k
    obtain ⟨c0, k⟩ := fold_c k
    obtain ⟨l0, e0⟩ := fx_lit (by decide) (by decide) (by decide) (by decide) c0
    rw [e0] at k
    obtain ⟨c1, k⟩ := fold_c k
    obtain ⟨e1, d1, u1, v1⟩ := fx_dig c1
    rw [e1] at k
    have hq := fold_e k
    exact Or.inr (Or.inl ⟨Or.inl hc, tO_0 p q i, by rw [tO_1, if_neg (show ¬ f p = 110 by rw [hc]; decide)], by omega⟩)
  · have k := eoo_p hp hs h
    change ([100] : List Int32).foldl _ _ = _ at k
    obtain ⟨c0, k⟩ := fold_c k
    obtain ⟨l0, e0⟩ := fx_lit (by decide) (by decide) (by decide) (by decide) c0
    rw [e0] at k
    have hq := fold_e k
    exact Or.inl ⟨hc, (tO_0 p q i).trans hc, by omega⟩
  · have k := eoo_p hp hs h
    change ([102, 35, 104] : List Int32).foldl _ _ = _ at k
    obtain ⟨c0, k⟩ := fold_c k
    obtain ⟨l0, e0⟩ := fx_lit (by decide) (by decide) (by decide) (by decide) c0
    rw [e0] at k
    obtain ⟨c1, k⟩ := fold_c k
    obtain ⟨e1, d1, u1, v1⟩ := fx_dig c1
    rw [e1] at k
    obtain ⟨c2, k⟩ := fold_c k
    have e2 := fx_hlf c2
    rw [e2] at k
    have hq := fold_e k
    exact Or.inr (Or.inr (Or.inl ⟨Or.inl hc, tO_0 p q i, by rw [tO_1, if_neg (show ¬ f p = 110 by rw [hc]; decide)], by rw [tO_2, if_neg (show ¬ f p = 110 by rw [hc]; decide), if_neg (show ¬ f p = 109 by rw [hc]; decide)], by omega⟩))
  · have k := eoo_p hp hs h
    change ([103, 35, 104] : List Int32).foldl _ _ = _ at k
    obtain ⟨c0, k⟩ := fold_c k
    obtain ⟨l0, e0⟩ := fx_lit (by decide) (by decide) (by decide) (by decide) c0
    rw [e0] at k
    obtain ⟨c1, k⟩ := fold_c k
    obtain ⟨e1, d1, u1, v1⟩ := fx_dig c1
    rw [e1] at k
    obtain ⟨c2, k⟩ := fold_c k
    have e2 := fx_hlf c2
    rw [e2] at k
    have hq := fold_e k
    exact Or.inr (Or.inr (Or.inl ⟨Or.inr (Or.inl hc), tO_0 p q i, by rw [tO_1, if_neg (show ¬ f p = 110 by rw [hc]; decide)], by rw [tO_2, if_neg (show ¬ f p = 110 by rw [hc]; decide), if_neg (show ¬ f p = 109 by rw [hc]; decide)], by omega⟩))
  · have k := eoo_p hp hs h
    change ([108, 35, 104] : List Int32).foldl _ _ = _ at k
    obtain ⟨c0, k⟩ := fold_c k
    obtain ⟨l0, e0⟩ := fx_lit (by decide) (by decide) (by decide) (by decide) c0
    rw [e0] at k
    obtain ⟨c1, k⟩ := fold_c k
    obtain ⟨e1, d1, u1, v1⟩ := fx_dig c1
    rw [e1] at k
    obtain ⟨c2, k⟩ := fold_c k
    have e2 := fx_hlf c2
    rw [e2] at k
    have hq := fold_e k
    exact Or.inr (Or.inr (Or.inl ⟨Or.inr (Or.inr hc), tO_0 p q i, by rw [tO_1, if_neg (show ¬ f p = 110 by rw [hc]; decide)], by rw [tO_2, if_neg (show ¬ f p = 110 by rw [hc]; decide), if_neg (show ¬ f p = 109 by rw [hc]; decide)], by omega⟩))
  · have k := eoo_p hp hs h
    change ([109, 35, 61, 35] : List Int32).foldl _ _ = _ at k
    obtain ⟨c0, k⟩ := fold_c k
    obtain ⟨l0, e0⟩ := fx_lit (by decide) (by decide) (by decide) (by decide) c0
    rw [e0] at k
    obtain ⟨c1, k⟩ := fold_c k
    obtain ⟨e1, d1, u1, v1⟩ := fx_dig c1
    rw [e1] at k
    obtain ⟨c2, k⟩ := fold_c k
    obtain ⟨l2, e2⟩ := fx_lit (by decide) (by decide) (by decide) (by decide) c2
    rw [e2] at k
    obtain ⟨c3, k⟩ := fold_c k
    obtain ⟨e3, d3, u3, v3⟩ := fx_dig c3
    rw [e3] at k
    have hq := fold_e k
    exact Or.inr (Or.inr (Or.inr (Or.inl ⟨hc, (tO_0 p q i).trans hc, by rw [tO_1, if_neg (show ¬ f p = 110 by rw [hc]; decide)], by rw [tO_2, if_neg (show ¬ f p = 110 by rw [hc]; decide), if_pos hc], by omega⟩)))
  · have k := eoo_p hp hs h
    change ([110, 64, 58, 35, 62, 35, 47, 35] : List Int32).foldl _ _ = _ at k
    obtain ⟨c0, k⟩ := fold_c k
    obtain ⟨l0, e0⟩ := fx_lit (by decide) (by decide) (by decide) (by decide) c0
    rw [e0] at k
    obtain ⟨c1, k⟩ := fold_c k
    have e1 := fx_wrd c1
    rw [e1] at c1
    rw [e1] at k
    obtain ⟨c2, k⟩ := fold_c k
    obtain ⟨l2, e2⟩ := fx_lit (by decide) (by decide) (by decide) (by decide) c2
    rw [e2] at k
    obtain ⟨c3, k⟩ := fold_c k
    obtain ⟨e3, d3, u3, v3⟩ := fx_dig c3
    rw [e3] at k
    obtain ⟨c4, k⟩ := fold_c k
    obtain ⟨l4, e4⟩ := fx_lit (by decide) (by decide) (by decide) (by decide) c4
    rw [e4] at k
    obtain ⟨c5, k⟩ := fold_c k
    obtain ⟨e5, d5, u5, v5⟩ := fx_dig c5
    rw [e5] at k
    obtain ⟨c6, k⟩ := fold_c k
    obtain ⟨l6, e6⟩ := fx_lit (by decide) (by decide) (by decide) (by decide) c6
    rw [e6] at k
    obtain ⟨c7, k⟩ := fold_c k
    obtain ⟨e7, d7, u7, v7⟩ := fx_dig c7
    rw [e7] at k
    have hq := fold_e k
    rw [show p + 1 + lf f L (p + 1) + 1 + 1 + 1 + 1 + 1 = p + lf f L (p + 1) + 6 by omega] at v7
    rw [show p + 1 + lf f L (p + 1) = p + lf f L (p + 1) + 1 by omega] at l2
    exact Or.inr (Or.inr (Or.inr (Or.inr (Or.inr ⟨hc, (tO_0 p q i).trans hc, lf f L (p + 1), d7, rfl, by omega, u7, v7, by rw [tO_1, if_pos hc], by rw [tO_2, if_pos hc], by rw [tO_3, if_pos hc, v7], l2, by omega⟩))))
  · have k := eoo_p hp hs h
    change ([111, 35] : List Int32).foldl _ _ = _ at k
    obtain ⟨c0, k⟩ := fold_c k
    obtain ⟨l0, e0⟩ := fx_lit (by decide) (by decide) (by decide) (by decide) c0
    rw [e0] at k
    obtain ⟨c1, k⟩ := fold_c k
    obtain ⟨e1, d1, u1, v1⟩ := fx_dig c1
    rw [e1] at k
    have hq := fold_e k
    exact Or.inr (Or.inl ⟨Or.inr (Or.inl hc), tO_0 p q i, by rw [tO_1, if_neg (show ¬ f p = 110 by rw [hc]; decide)], by omega⟩)
  · have k := eoo_p hp hs h
    change ([112, 35, 104, 61, 35] : List Int32).foldl _ _ = _ at k
    obtain ⟨c0, k⟩ := fold_c k
    obtain ⟨l0, e0⟩ := fx_lit (by decide) (by decide) (by decide) (by decide) c0
    rw [e0] at k
    obtain ⟨c1, k⟩ := fold_c k
    obtain ⟨e1, d1, u1, v1⟩ := fx_dig c1
    rw [e1] at k
    obtain ⟨c2, k⟩ := fold_c k
    have e2 := fx_hlf c2
    rw [e2] at k
    obtain ⟨c3, k⟩ := fold_c k
    obtain ⟨l3, e3⟩ := fx_lit (by decide) (by decide) (by decide) (by decide) c3
    rw [e3] at k
    obtain ⟨c4, k⟩ := fold_c k
    obtain ⟨e4, d4, u4, v4⟩ := fx_dig c4
    rw [e4] at k
    have hq := fold_e k
    exact Or.inr (Or.inr (Or.inr (Or.inr (Or.inl ⟨Or.inl hc, tO_0 p q i, by rw [tO_1, if_neg (show ¬ f p = 110 by rw [hc]; decide)], by rw [tO_2, if_neg (show ¬ f p = 110 by rw [hc]; decide), if_neg (show ¬ f p = 109 by rw [hc]; decide)], by rw [tO_3, if_neg (show ¬ f p = 110 by rw [hc]; decide)], by omega⟩))))
  · have k := eoo_p hp hs h
    change ([116, 35] : List Int32).foldl _ _ = _ at k
    obtain ⟨c0, k⟩ := fold_c k
    obtain ⟨l0, e0⟩ := fx_lit (by decide) (by decide) (by decide) (by decide) c0
    rw [e0] at k
    obtain ⟨c1, k⟩ := fold_c k
    obtain ⟨e1, d1, u1, v1⟩ := fx_dig c1
    rw [e1] at k
    have hq := fold_e k
    exact Or.inr (Or.inl ⟨Or.inr (Or.inr (Or.inl hc)), tO_0 p q i, by rw [tO_1, if_neg (show ¬ f p = 110 by rw [hc]; decide)], by omega⟩)
  · have k := eoo_p hp hs h
    change ([119, 35, 104, 43, 35] : List Int32).foldl _ _ = _ at k
    obtain ⟨c0, k⟩ := fold_c k
    obtain ⟨l0, e0⟩ := fx_lit (by decide) (by decide) (by decide) (by decide) c0
    rw [e0] at k
    obtain ⟨c1, k⟩ := fold_c k
    obtain ⟨e1, d1, u1, v1⟩ := fx_dig c1
    rw [e1] at k
    obtain ⟨c2, k⟩ := fold_c k
    have e2 := fx_hlf c2
    rw [e2] at k
    obtain ⟨c3, k⟩ := fold_c k
    obtain ⟨l3, e3⟩ := fx_lit (by decide) (by decide) (by decide) (by decide) c3
    rw [e3] at k
    obtain ⟨c4, k⟩ := fold_c k
    obtain ⟨e4, d4, u4, v4⟩ := fx_dig c4
    rw [e4] at k
    have hq := fold_e k
    exact Or.inr (Or.inr (Or.inr (Or.inr (Or.inl ⟨Or.inr hc, tO_0 p q i, by rw [tO_1, if_neg (show ¬ f p = 110 by rw [hc]; decide)], by rw [tO_2, if_neg (show ¬ f p = 110 by rw [hc]; decide), if_neg (show ¬ f p = 109 by rw [hc]; decide)], by rw [tO_3, if_neg (show ¬ f p = 110 by rw [hc]; decide)], by omega⟩))))
  · have k := eoo_p hp hs h
    change ([120, 35] : List Int32).foldl _ _ = _ at k
    obtain ⟨c0, k⟩ := fold_c k
    obtain ⟨l0, e0⟩ := fx_lit (by decide) (by decide) (by decide) (by decide) c0
    rw [e0] at k
    obtain ⟨c1, k⟩ := fold_c k
    obtain ⟨e1, d1, u1, v1⟩ := fx_dig c1
    rw [e1] at k
    have hq := fold_e k
    exact Or.inr (Or.inl ⟨Or.inr (Or.inr (Or.inr hc)), tO_0 p q i, by rw [tO_1, if_neg (show ¬ f p = 110 by rw [hc]; decide)], by omega⟩)
end OGX
