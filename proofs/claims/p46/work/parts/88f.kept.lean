/-! isKept answers true -/
/-- the sums that the law keeps -/
def SS (fs : Nat → Int64) (made n : Nat) (A H : Nat → Int32) : Prop := made ≤ 46 ∧ n = (if 8 ≤ made then 8 else made) ∧ sumA A = fs made ∧ ∀ i, i < n → sumA (fun k => H (177 * i + k)) = fs (made - n + i)
theorem lg_0 (x : Int64) : lg_cmp x x = 0 := by
  unfold lg_cmp
  rw [if_neg (show ¬ x > x from fun z => Int64.lt_irrefl z), if_pos rfl]
theorem nI_m1 (n : Nat) : nI (n + 1) + -1 = nI n := by
  rw [nI_succ, Int32.add_assoc, show (1 : Int32) + -1 = 0 by decide, Int32.add_zero]
section KEPT
variable {w : FW} {x n : Nat} {A H S : Nat → Int32} {sv : Int32}
theorem e_undo1 {m : Nat} (C : CR w x A (m + 1) H sv S) : ∃ v, F_L_undo x w = some (nI m, v) ∧ CR v x (fun k => H (177 * m + k)) m H sv S ∧ v.1 = w.1 := by
  obtain ⟨v, e, C1, K⟩ := c_undo1 C
  refine ⟨v, ?_, C1, K.2.2.1⟩
  unfold F_L_undo
  rw [fg_t C.1.1, e]
  rfl
theorem e_undo0 (C : CR w x A 0 H sv S) : F_L_undo x w = some (-79, w) := by
  unfold F_L_undo
  rw [fg_t C.1.1, c_undo0 C]
  rfl
theorem e_restore1 (C : CR w x A n H 1 S) : ∃ v, F_L_restore x w = some (S 0, v) ∧ CR v x S 0 H 1 S ∧ v.1 = w.1 := by
  obtain ⟨v, e, C1, K⟩ := c_restore1 C
  refine ⟨v, ?_, C1, K.2.2.1⟩
  unfold F_L_restore
  rw [fg_t C.1.1, e]
  rfl
theorem min_8 (w : FW) {made : Nat} (h : made ≤ 46) : F_J9_min_7cf53 8 (nI made) w = some (nI (if 8 ≤ made then 8 else made)) := by
  unfold F_J9_min_7cf53
  by_cases c : 8 ≤ made
  · rw [if_pos c, if_neg (show ¬ nI made < 8 from nI_nlt (b := 8) c (by omega))]
    rfl
  · rw [if_neg c, if_pos (show nI made < 8 from nI_lt (b := 8) (by omega) (by decide))]
theorem l_isKept {y0 : Nat} {fs : Nat → Int64} {made : Nat} (C : CR w x A n H sv S) (hS : SS fs made n A H) : ∃ z, F_L_isKept x y0 (nI made) fs w = some z ∧ z.1 = 1 := by
  obtain ⟨s1, s2, s3, s4⟩ := hS
  have X := C.X
  have hA := C.2.2.1
  have hn8 : n ≤ 8 := C.2.2.2.2.1
  have hnm : n ≤ made := by rw [s2]; split <;> omega
  unfold F_L_isKept
  refine eb (e_a0 X) ?_
  refine eg C.1.1 ?_
  obtain ⟨v, e, C1, -, -, k1, -⟩ := c_snapshot C
  refine eb e ?_
  refine ep rfl ?_
  refine eb (e_a13 C1.X) ?_
  refine eb (min_8 v s1) ?_
  rw [← s2]
  refine ep C1.2.2.2.1 ?_
  refine eb (min_8 v s1) ?_
  rw [← s2]
  refine eb' (fun r => ∃ u B, r = .inl u ∧ CR u x B 0 H 1 A) ?_ ?_
  · refine fLoopB_inv (fun k s => ∃ u B, s = (nI (n - k), (if k < made then nI (made - 1 - k) else nI made - 1 - nI k), u) ∧ CR u x B (n - k) H 1 A) n 9 (by omega) ⟨v, A, ?_, C1⟩ ?_ ?_
    · by_cases c : 0 < made
      · rw [if_pos c, show nI made - 1 = nI (made - 1) from nI_sub (b := 1) c (by omega)]
        rfl
      · rw [if_neg c, show nI made - 1 - nI 0 = nI made - 1 from Int32.sub_zero _]
        rfl
    · rintro k s hk ⟨u, B, e1, C2⟩
      subst e1
      dsimp only
      rw [if_pos (show k < made by omega)]
      refine en (nI_nle (by omega) (by omega)) ?_
      have hq : n - k = (n - k - 1) + 1 := by omega
      rw [hq] at C2
      obtain ⟨u', f1, C3, k3⟩ := e_undo1 C2
      refine eb f1 ?_
      have hm1 : nI (n - k) + -1 = nI (n - k - 1) := by
        rw [hq]
        exact nI_m1 _
      refine ep (by rw [hm1]) ?_
      refine eb (e_sum C3.X C3.2.2.1) ?_
      refine eg (nI_in (N := 60) (by omega) (by decide)) ?_
      rw [nI_clamp (by omega)]
      have e9 : sumA (fun i => H (177 * (n - k - 1) + i)) = fs (made - 1 - k) := by
        rw [s4 (n - k - 1) (by omega)]
        congr 1
        omega
      refine ep (by rw [e9]; exact lg_0 _) ⟨_, rfl, _, rfl, u', _, ?_, by rw [show n - (k + 1) = n - k - 1 by omega]; exact C3⟩
      rw [hm1, show n - (k + 1) = n - k - 1 by omega]
      by_cases c : k + 1 < made
      · rw [if_pos c, show made - 1 - k = (made - 1 - (k + 1)) + 1 by omega]
        rw [show nI (made - 1 - (k + 1) + 1) + -1 = nI (made - 1 - (k + 1)) from nI_m1 _]
      · rw [if_neg c, show made = k + 1 by omega]
        have : nI (k + 1 - 1 - k) = 0 := by rw [show k + 1 - 1 - k = 0 by omega]; rfl
        rw [this, nI_pred, nI_succ, ← Int32.sub_sub, Int32.sub_self]
        rfl
    · rintro s ⟨u, B, e1, C2⟩
      subst e1
      dsimp only
      rw [Nat.sub_self] at C2 ⊢
      exact ep (by decide) ⟨_, rfl, _, rfl, u, B, rfl, C2⟩
  rintro r ⟨u, B, e1, C2⟩
  subst e1
  show ∃ z, Option.bind _ _ = some z ∧ _
  refine eb (e_undo0 C2) ?_
  refine ep rfl ?_
  obtain ⟨u2, f2, C3, k3⟩ := e_restore1 C2
  refine eb f2 ?_
  refine ep rfl ?_
  refine eb (e_sum C3.X C3.2.2.1) ?_
  refine eg (nI_in (N := 60) (by omega) (by decide)) ?_
  rw [nI_clamp (by omega)]
  refine ep (by rw [s3]; exact lg_0 _) ?_
  refine eb (e_undo0 C3) ?_
  exact ep rfl ⟨_, rfl, rfl⟩
/-- what an act that is kept leaves of the sums -/
theorem sum_cgH (C : CR w x A n H sv S) {i : Nat} (hi : i < n) {B : Nat → Int32} (e : ∀ k, k < 177 → B k = H (177 * i + k)) : sumA B = sumA (fun k => H (177 * i + k)) := by
  have hn8 : n ≤ 8 := C.2.2.2.2.1
  obtain ⟨h1, h2⟩ := C.2.2.2.2.2.1 i hi
  have o := C.1.off (j := 3 + i) (by omega)
  have hf : Fr w (sR w 400 x 0 (OFF w x (3 + i))) (fun a => a = x) := Fr.sR _ _ _ _ _ rfl
  have s1 : OS (sR w 400 x 0 (OFF w x (3 + i))) (OFF w x (3 + i)) := o.1.fr hf (fun q q1 q2 => by omega)
  have g1 := h1.fr o.1 h2.n8 hf (fun q q1 q2 => by omega)
  have X1 : XO (sR w 400 x 0 (OFF w x (3 + i))) x (OFF w x (3 + i)) (fun k => H (177 * i + k)) := ⟨C.1.1, gR_s _ _ _ _ _, s1, g1, h2⟩
  have X2 : XO (sR w 400 x 0 (OFF w x (3 + i))) x (OFF w x (3 + i)) B := ⟨C.1.1, gR_s _ _ _ _ _, s1, g1.cg h2 e, h2.cg e⟩
  have f1 := e_sum X1 h2
  rw [e_sum X2 (h2.cg e)] at f1
  exact Option.some.inj f1
theorem SS.push {fs : Nat → Int64} {made : Nat} {A' : Nat → Int32} {w' : FW} (h : SS fs made n A H) (C' : CR w' x A' (if n = 8 then 8 else n + 1) (hPush n A H) sv S) (C : CR w x A n H sv S) (hm : made < 46) : SS (fun i => if i = made + 1 then sumA A' else fs i) (made + 1) (if n = 8 then 8 else n + 1) A' (hPush n A H) := by
  obtain ⟨s1, s2, s3, s4⟩ := h
  have hnm : n ≤ made := by rw [s2]; split <;> omega
  have h58 : made < 8 → n = made := fun z => by rw [s2, if_neg (by omega)]
  have h88 : 8 ≤ made → n = 8 := fun z => by rw [s2, if_pos z]
  refine ⟨by omega, ?_, (if_pos rfl).symm, fun i hi => ?_⟩
  · by_cases c : 8 ≤ made
    · rw [if_pos (h88 c), if_pos (by omega)]
    · have := h58 (by omega)
      by_cases d : made + 1 = 8
      · rw [if_neg (by omega), if_pos (by omega)]
        omega
      · rw [if_neg (by omega), if_neg (by omega)]
        omega
  · have hne : ¬ made + 1 - (if n = 8 then 8 else n + 1) + i = made + 1 := by
      split at hi <;> rename_i y
      · rw [if_pos y]; omega
      · rw [if_neg y]; omega
    dsimp only
    rw [if_neg hne]
    by_cases y : n = 8
    · rw [if_pos y] at hi ⊢
      by_cases z : i = 7
      · have e : sumA (fun k => hPush n A H (177 * i + k)) = sumA A := sum_cg C (fun k hk => by
          unfold hPush
          rw [if_pos y, if_neg (by omega), if_pos (by omega), show 177 * i + k - 1239 = k by omega])
        rw [e, s3]
        congr 1
        omega
      · have e : sumA (fun k => hPush n A H (177 * i + k)) = sumA (fun k => H (177 * (i + 1) + k)) := by
          refine sum_cgH C (i := i + 1) (by omega) (fun k hk => ?_)
          unfold hPush
          rw [if_pos y, if_pos (by omega), show 177 * i + k + 177 = 177 * (i + 1) + k by omega]
        rw [e, s4 (i + 1) (by omega)]
        congr 1
        omega
    · rw [if_neg y] at hi ⊢
      by_cases z : i = n
      · have e : sumA (fun k => hPush n A H (177 * i + k)) = sumA A := sum_cg C (fun k hk => by
          unfold hPush
          rw [if_neg y, if_pos (by omega), show 177 * i + k - 177 * n = k by omega])
        rw [e, s3]
        congr 1
        omega
      · have e : sumA (fun k => hPush n A H (177 * i + k)) = sumA (fun k => H (177 * i + k)) := by
          refine sum_cgH C (i := i) (by omega) (fun k hk => ?_)
          unfold hPush
          rw [if_neg y, if_neg (by omega)]
        rw [e, s4 i (by omega)]
        congr 1
        omega
end KEPT
