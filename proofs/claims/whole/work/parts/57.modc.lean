/-! The reference's copies -/
theorem cp_all {α : Type} {n : Nat} {f g : Nat → α} (h : ∀ i, n ≤ i → f i = g i) : cp n f g = f := by
  funext i
  unfold cp
  by_cases hi : i < n
  · rw [if_pos hi]
  · rw [if_neg hi, h i (by omega)]
/-- the history, with the array F put behind n of them (the eldest goes where there are 8) -/
def hPush (n : Nat) (F H : Nat → Int32) : Nat → Int32 := fun i => if n = 8 then (if i < 1239 then H (i + 177) else if i < 1416 then F (i - 1239) else H i) else (if 177 * n ≤ i ∧ i < 177 * n + 177 then F (i - 177 * n) else H i)
def hShift (k : Nat) (H : Nat → Int32) : Nat → Int32 := fun i => if i < k then H (i + 177) else H i
theorem hShift_s (k : Nat) (H : Nat → Int32) : up (hShift k H) k (hShift k H (k + 177)) = hShift (k + 1) H := by
  funext i
  unfold up hShift
  rw [if_neg (show ¬ k + 177 < k by omega)]
  by_cases h : i = k
  · subst h
    rw [if_pos rfl, if_pos (by omega)]
  · rw [if_neg h]
    by_cases h2 : i < k
    · rw [if_pos h2, if_pos (by omega)]
    · rw [if_neg h2, if_neg (by omega)]
def hPut (b k : Nat) (F H : Nat → Int32) : Nat → Int32 := fun i => if b ≤ i ∧ i < b + k then F (i - b) else H i
theorem hPut_0 (b : Nat) (F H : Nat → Int32) : hPut b 0 F H = H := by
  funext i
  unfold hPut
  rw [if_neg (by omega)]
theorem hPut_s (b k : Nat) (F H : Nat → Int32) : up (hPut b k F H) (b + k) (F k) = hPut b (k + 1) F H := by
  funext i
  unfold up hPut
  by_cases h : i = b + k
  · subst h
    rw [if_pos rfl, if_pos (by omega), show b + k - b = k by omega]
  · rw [if_neg h]
    by_cases h2 : b ≤ i ∧ i < b + k
    · rw [if_pos h2, if_pos (by omega)]
    · rw [if_neg h2, if_neg (by omega)]
section MC
variable {w : FW} {M : Nat} {fl : Nat → Int32} {ar : Nat → Nat → Int32}
theorem m_remembers (hB : MB w M) : F_X5_remembers M (mW w M fl ar) = some (mW w M (up fl 500 0) (up ar 2 (cp 177 (ar 1) (ar 2)))) := by
  obtain ⟨zk0, zk1, zk2, zk3, zk4, zk5, zk6, zk7, zk8, zl1, zl2, zl3, zl4, zl5, zl6, zl7, zl8, zr1, zr2, zr3, zr4, zr5, zr6, zr7, zr8⟩ := id hB
  unfold F_X5_remembers
  rw [fg_t (show (mW w M fl ar).1 M = 6 from zk0)]
  refine fLoop_bind (r := mW w M (up fl 500 0) (up ar 2 (cp 177 (ar 1) (ar 2)))) (fun k => (nI k, mW w M (up fl 500 0) (up ar 2 (cp k (ar 1) (ar 2))))) 177 ?_ (fun k hk => ?_) ?_ ?_
  · show (_, _) = (_, _); rw [cp_0, up_self]; simp only [mW_sf]; rfl
  · have c1 : ¬ (177 : Int32) ≤ nI k := nI_ge (b := 177) hk (by decide)
    simp (disch := first | assumption | decide | omega | (simp only [mW_k, mW_l, mW_R, sI_k, sI_l, gR_I, mW_sf, mW_f, show Int32.toNatClampNeg 0 = 0 from rfl, show Int32.toNatClampNeg 1 = 1 from rfl, show Int32.toNatClampNeg 2 = 2 from rfl, show Int32.toNatClampNeg 3 = 3 from rfl, show Int32.toNatClampNeg 4 = 4 from rfl, show Int32.toNatClampNeg 5 = 5 from rfl, show Int32.toNatClampNeg 6 = 6 from rfl, show Int32.toNatClampNeg 10 = 10 from rfl, mW_a1, mW_a2, mW_a3, mW_a4, mW_a5, mW_a6, mW_a7, mW_a8, mW_s1, mW_s2, mW_s3, mW_s4, mW_s5, mW_s6, mW_s7, mW_s8, zk0, zk1, zk2, zk3, zk4, zk5, zk6, zk7, zk8, zl1, zl2, zl3, zl4, zl5, zl6, zl7, zl8, zr1, zr2, zr3, zr4, zr5, zr6, zr7, zr8, *]) <;> first | decide | (apply ix_ok rfl <;> first | omega | decide) | skip) only [mW_k, mW_l, mW_R, gR_I, zr1, zr2, zr3, zr4, zr5, zr6, zr7, zr8, fg_t, mW_a1, mW_a2, mW_a3, mW_a4, mW_a5, mW_a6, mW_a7, mW_a8, mW_s1, mW_s2, mW_s3, mW_s4, mW_s5, mW_s6, mW_s7, mW_s8, mW_sf, mW_f, Option.bind_some, up_s, up_n, if_neg c1, nI_1, nI_clamp (show k < 2 ^ 31 by omega), up_up, cp_s]
  · have c1 : (177 : Int32) ≤ nI 177 := by decide
    simp only [if_pos c1]
  · rfl
theorem m_shift (hB : MB w M) : fLoop (σ := Int32 × FW) (ρ := FW) (fun s21 => (if 1239 ≤ s21.1 then some (.inr s21.2) else fg ((mW w M fl ar).1 (gR s21.2 504 M 0) = 11) inferInstance (fg (¬ ((s21.1 + 177) < 0 ∨ (mW w M fl ar).2.1 (gR s21.2 504 M 0) ≤ Int32.toNatClampNeg (s21.1 + 177))) inferInstance (fg (¬ (s21.1 < 0 ∨ (mW w M fl ar).2.1 (gR s21.2 504 M 0) ≤ Int32.toNatClampNeg s21.1)) inferInstance (some (.inl ((s21.1 + 1), (sI s21.2 601 (gR s21.2 504 M 0) (Int32.toNatClampNeg s21.1) (gI s21.2 601 (gR s21.2 504 M 0) (Int32.toNatClampNeg (s21.1 + 177))))))))))) (0, mW w M fl ar) = some (mW w M fl (up ar 4 (hShift 1239 (ar 4)))) := by
  obtain ⟨zk0, zk1, zk2, zk3, zk4, zk5, zk6, zk7, zk8, zl1, zl2, zl3, zl4, zl5, zl6, zl7, zl8, zr1, zr2, zr3, zr4, zr5, zr6, zr7, zr8⟩ := id hB
  have h0 : ((0 : Int32), mW w M fl ar) = (nI 0, mW w M fl (up ar 4 (hShift 0 (ar 4)))) := by
    rw [show hShift 0 (ar 4) = ar 4 from rfl, up_self]
    rfl
  rw [h0]
  refine fLoop_for (fun k => (nI k, mW w M fl (up ar 4 (hShift k (ar 4))))) 1239 (fun k hk => ?_) ?_
  · have c1 : ¬ (1239 : Int32) ≤ nI k := nI_ge (b := 1239) hk (by decide)
    have e1 : nI k + 177 = nI (k + 177) := nI_add k 177
    have g4 : w.1 (gR w 504 M 0) = 11 := by rw [zr4]; exact zk4
    have f1 : ¬ (nI k + 177 < 0 ∨ w.2.1 (gR w 504 M 0) ≤ (nI k + 177).toNatClampNeg) := by rw [zr4, zl4, e1]; exact ix_ok rfl (by omega) (by decide)
    have f2 : ¬ (nI k < 0 ∨ w.2.1 (gR w 504 M 0) ≤ (nI k).toNatClampNeg) := by rw [zr4, zl4]; exact ix_ok rfl (by omega) (by decide)
    simp only [if_neg c1, mW_R, mW_k, mW_l, fg_t g4, fg_t f1, fg_t f2, zr4, e1, nI_1, nI_clamp (show k < 2 ^ 31 by omega), nI_clamp (show k + 177 < 2 ^ 31 by omega), mW_a4, mW_s4, up_s, up_up, hShift_s]
  · have c1 : (1239 : Int32) ≤ nI 1239 := by decide
    simp only [if_pos c1]
theorem m_changed (hB : MB w M) (a : Int32) {n : Nat} (hk : fl 505 = nI n) (h8 : n ≤ 8) : F_X5_changed M a (mW w M fl ar) = some (a, mW w M (up fl 505 (nI (if n = 8 then 8 else n + 1))) (up ar 4 (hPush n (ar 2) (ar 4)))) := by
  obtain ⟨zk0, zk1, zk2, zk3, zk4, zk5, zk6, zk7, zk8, zl1, zl2, zl3, zl4, zl5, zl6, zl7, zl8, zr1, zr2, zr3, zr4, zr5, zr6, zr7, zr8⟩ := id hB
  have put : ∀ (m : Nat) (gl : Nat → Int32) (H : Nat → Int32), gl 505 = nI (m + 1) → m < 8 → ((fLoop (σ := Int32 × FW) (ρ := FW) (fun s6 => (if 177 ≤ s6.1 then some (.inr s6.2) else fg ((mW w M fl ar).1 (gR s6.2 502 M 0) = 11) inferInstance (fg (¬ (s6.1 < 0 ∨ (mW w M fl ar).2.1 (gR s6.2 502 M 0) ≤ Int32.toNatClampNeg s6.1)) inferInstance (fg ((mW w M fl ar).1 (gR s6.2 504 M 0) = 11) inferInstance (fg (¬ (((177 * ((gI s6.2 505 M 0) - 1)) + s6.1) < 0 ∨ (mW w M fl ar).2.1 (gR s6.2 504 M 0) ≤ Int32.toNatClampNeg ((177 * ((gI s6.2 505 M 0) - 1)) + s6.1))) inferInstance (some (.inl ((s6.1 + 1), (sI s6.2 601 (gR s6.2 504 M 0) (Int32.toNatClampNeg ((177 * ((gI s6.2 505 M 0) - 1)) + s6.1)) (gI s6.2 601 (gR s6.2 502 M 0) (Int32.toNatClampNeg s6.1))))))))))) (0, mW w M gl (up ar 4 H))).bind (fun x12 => some (a, x12))) = some (a, mW w M gl (up ar 4 (hPut (177 * m) 177 (ar 2) H))) := by
    intro m gl H hm hm8
    refine fLoop_bind (fun k => (nI k, mW w M gl (up ar 4 (hPut (177 * m) k (ar 2) H)))) 177 ?_ (fun k hk => ?_) ?_ rfl
    · show (_, _) = (_, _)
      rw [hPut_0]
      rfl
    · have c1 : ¬ (177 : Int32) ≤ nI k := nI_ge (b := 177) hk (by decide)
      have e1 : 177 * (nI (m + 1) - 1) + nI k = nI (177 * m + k) := by
        rw [nI_pred, show (177 : Int32) = nI 177 from rfl, nI_mul, nI_add]
      have g2 : w.1 (gR w 502 M 0) = 11 := by rw [zr2]; exact zk2
      have g4 : w.1 (gR w 504 M 0) = 11 := by rw [zr4]; exact zk4
      have f1 : ¬ (nI k < 0 ∨ w.2.1 (gR w 502 M 0) ≤ (nI k).toNatClampNeg) := by rw [zr2, zl2]; exact ix_ok rfl (by omega) (by decide)
      have f2 : ¬ (177 * (nI (m + 1) - 1) + nI k < 0 ∨ w.2.1 (gR w 504 M 0) ≤ (177 * (nI (m + 1) - 1) + nI k).toNatClampNeg) := by rw [zr4, zl4, e1]; exact ix_ok rfl (by omega) (by decide)
      have f3 : ¬ (177 * (gI (mW w M gl (up ar 4 (hPut (177 * m) k (ar 2) H))) 505 M 0 - 1) + nI k < 0 ∨ w.2.1 (gR w 504 M 0) ≤ (177 * (gI (mW w M gl (up ar 4 (hPut (177 * m) k (ar 2) H))) 505 M 0 - 1) + nI k).toNatClampNeg) := by rw [mW_f, hm]; exact f2
      simp only [if_neg c1, mW_R, mW_k, mW_l, fg_t g2, fg_t g4, fg_t f1, fg_t f3, zr2, zr4, mW_f, hm, e1, nI_1, nI_clamp (show k < 2 ^ 31 by omega), nI_clamp (show 177 * m + k < 2 ^ 31 by omega), mW_a2, mW_s4, up_s, up_n (show ¬ (2 : Nat) = 4 by decide), up_up, hPut_s]
    · have c1 : (177 : Int32) ≤ nI 177 := by decide
      simp only [if_pos c1]
  unfold F_X5_changed
  by_cases h : n = 8
  · subst h
    have e : (fl 505 = 8) := hk
    simp only [mW_k, mW_l, fg_t zk0, mW_f, if_pos e]
    have h1 := m_shift (w := w) (M := M) (fl := fl) (ar := ar) hB
    simp only [mW_k, mW_l] at h1
    rw [h1]
    simp only [Option.bind_some]
    have h2 := put 7 fl (hShift 1239 (ar 4)) hk (by decide)
    simp only [mW_k, mW_l] at h2
    rw [h2]
    have e2 : up fl 505 (nI 8) = fl := (congrArg (up fl 505) hk.symm).trans (up_self fl 505)
    rw [if_pos trivial, e2]
    congr 3
    congr 1
    funext i
    unfold hPut hShift hPush
    simp only [if_true]
    by_cases a1 : 177 * 7 ≤ i ∧ i < 177 * 7 + 177
    · rw [if_pos a1, if_neg (by omega), if_pos (by omega)]
    · rw [if_neg a1]
      by_cases a2 : i < 1239
      · rw [if_pos a2, if_pos a2]
      · rw [if_neg a2, if_neg a2, if_neg (by omega)]
  · have e : ¬ (fl 505 = 8) := by
      rw [hk]
      intro z
      exact h ((nI_eq (a := n) (b := 8) (by omega) (by decide)).mp z)
    simp only [mW_k, mW_l, fg_t zk0, mW_f, if_neg e, Option.bind_some, mW_sf]
    have h2 := put n (up fl 505 (fl 505 + 1)) (ar 4) (by rw [up_s, hk, nI_1]) (by omega)
    simp only [mW_k, mW_l, up_self] at h2
    rw [h2, if_neg h, hk, nI_1]
    congr 3
    congr 1
    funext i
    unfold hPut hPush
    rw [if_neg h]
/-- how a public act ends: answer, fields, history -/
def eA (code : Int32) (r : Out) : Int32 := if r.1 = 0 then r.2.1 else 0
def eF (fl : Nat → Int32) (code : Int32) (n : Nat) (r : Out) : Nat → Int32 := if r.1 = 0 then up (up fl 518 r.2.1) 505 (nI (if n = 8 then 8 else n + 1)) else if 0 ≤ r.1 then up (up (up (up fl 517 r.2.1) 515 r.1) 516 r.2.1) 500 code else up fl 500 (-r.1)
def eH (n : Nat) (F H : Nat → Int32) (r : Out) : Nat → Int32 := if r.1 = 0 then hPush n F H else H
theorem m_ends (hB : MB w M) (code : Int32) (r : Out) {n : Nat} (hk : fl 505 = nI n) (h8 : n ≤ 8) : F_X5_ends M r.1 code (mOut w M fl ar r).2 = some (eA code r, mW w M (eF fl code n r) (up (up ar 1 r.2.2) 4 (eH n (ar 2) (ar 4) r))) := by
  obtain ⟨zk0, zk1, zk2, zk3, zk4, zk5, zk6, zk7, zk8, zl1, zl2, zl3, zl4, zl5, zl6, zl7, zl8, zr1, zr2, zr3, zr4, zr5, zr6, zr7, zr8⟩ := id hB
  obtain ⟨x, y, B⟩ := r
  unfold F_X5_ends mOut oF eA eF eH
  dsimp only
  by_cases h0 : x = 0
  · subst h0
    have hk' : (up fl 518 y) 505 = nI n := by rw [up_n (by decide)]; exact hk
    have h1 := m_changed (w := w) (M := M) (fl := up fl 518 y) (ar := up ar 1 B) hB y hk' h8
    simp only [if_true, if_neg (show ¬ (0 : Int32) < 0 by decide), mW_k, fg_t zk0, mW_f, up_s, h1, Option.bind_some, up_n (show ¬ (2 : Nat) = 1 by decide), up_n (show ¬ (4 : Nat) = 1 by decide)]
  · by_cases h1 : 0 ≤ x
    · have h2 : ¬ x < 0 := by
        rw [Int32.lt_iff_toInt_lt]
        rw [Int32.le_iff_toInt_le] at h1
        omega
      simp only [if_neg h0, if_pos h1, if_neg h2, mW_k, fg_t zk0, mW_f, mW_sf, up_s, up_n (show ¬ (517 : Nat) = 515 by decide), m_fails hB, Option.bind_some, up_n (show ¬ (4 : Nat) = 1 by decide)]
      rw [show up (up ar 1 B) 4 (ar 4) = up ar 1 B from by
        have := up_self (up ar 1 B) 4
        rw [up_n (show ¬ (4 : Nat) = 1 by decide)] at this
        exact this]
    · have h2 : x < 0 := by
        rw [Int32.lt_iff_toInt_lt]
        rw [Int32.le_iff_toInt_le] at h1
        omega
      simp only [if_neg h0, if_neg h1, if_pos h2, mW_k, fg_t zk0, m_fails hB, Option.bind_some]
      rw [show up (up ar 1 B) 4 (ar 4) = up ar 1 B from by
        have := up_self (up ar 1 B) 4
        rw [up_n (show ¬ (4 : Nat) = 1 by decide)] at this
        exact this]
end MC
