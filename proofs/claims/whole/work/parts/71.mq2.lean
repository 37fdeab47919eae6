/-! The reference: accounts, numbers, positions -/
section MQ2
variable {w : FW} {M : Nat} {fl : Nat → Int32} {ar : Nat → Nat → Int32}
theorem mq_account (hB : MB w M) (hA : WA (ar 1)) (b : Int32) : F_X5_account M b (mW w M fl ar) = some (qV (qAccount b (fl 511) (fl 505) (ar 1)), mW w M (up fl 500 (wK [1] (qAccount b (fl 511) (fl 505) (ar 1)))) ar) := by
  obtain ⟨zk0, zk1, zk2, zk3, zk4, zk5, zk6, zk7, zk8, zl1, zl2, zl3, zl4, zl5, zl6, zl7, zl8, zr1, zr2, zr3, zr4, zr5, zr6, zr7, zr8⟩ := id hB
  obtain ⟨hn, h8, hT⟩ := hA.n
  unfold F_X5_account qAccount
  refine (fg_t (show (mW w M fl ar).1 M = 6 from zk0)).trans ?_
  by_cases b0 : b = 0
  · rw [if_pos b0, if_pos b0]
    simp (disch := first | assumption | decide | (simp only [mW_k, mW_l, mW_R, sI_k, sI_l, gR_I, mW_sf, mW_f, show Int32.toNatClampNeg 0 = 0 from rfl, show Int32.toNatClampNeg 1 = 1 from rfl, show Int32.toNatClampNeg 2 = 2 from rfl, show Int32.toNatClampNeg 3 = 3 from rfl, show Int32.toNatClampNeg 4 = 4 from rfl, show Int32.toNatClampNeg 5 = 5 from rfl, show Int32.toNatClampNeg 6 = 6 from rfl, show Int32.toNatClampNeg 10 = 10 from rfl, mW_a1, mW_a2, mW_a3, mW_a4, mW_a5, mW_a6, mW_a7, mW_a8, mW_s1, mW_s2, mW_s3, mW_s4, mW_s5, mW_s6, mW_s7, mW_s8, zk0, zk1, zk2, zk3, zk4, zk5, zk6, zk7, zk8, zl1, zl2, zl3, zl4, zl5, zl6, zl7, zl8, zr1, zr2, zr3, zr4, zr5, zr6, zr7, zr8, *]) <;> first | decide | (apply ix_ok rfl <;> first | omega | decide) | skip) only [mW_k, mW_l, mW_R, gR_I, zr1, zr2, zr3, zr4, zr5, zr6, zr7, zr8, fg_t, mW_a1, mW_a2, mW_a3, mW_a4, mW_a5, mW_a6, mW_a7, mW_a8, mW_s1, mW_s2, mW_s3, mW_s4, mW_s5, mW_s6, mW_s7, mW_s8, mW_sf, mW_f, Option.bind_some, up_s, up_n, show Int32.toNatClampNeg 0 = 0 from rfl, show Int32.toNatClampNeg 1 = 1 from rfl, show Int32.toNatClampNeg 2 = 2 from rfl, show Int32.toNatClampNeg 3 = 3 from rfl, show Int32.toNatClampNeg 4 = 4 from rfl, show Int32.toNatClampNeg 5 = 5 from rfl, show Int32.toNatClampNeg 6 = 6 from rfl, show Int32.toNatClampNeg 10 = 10 from rfl]
    rfl
  rw [if_neg b0, if_neg b0]
  by_cases b1 : b = 1
  · rw [if_pos b1, if_pos b1]
    simp (disch := first | assumption | decide | (simp only [mW_k, mW_l, mW_R, sI_k, sI_l, gR_I, mW_sf, mW_f, show Int32.toNatClampNeg 0 = 0 from rfl, show Int32.toNatClampNeg 1 = 1 from rfl, show Int32.toNatClampNeg 2 = 2 from rfl, show Int32.toNatClampNeg 3 = 3 from rfl, show Int32.toNatClampNeg 4 = 4 from rfl, show Int32.toNatClampNeg 5 = 5 from rfl, show Int32.toNatClampNeg 6 = 6 from rfl, show Int32.toNatClampNeg 10 = 10 from rfl, mW_a1, mW_a2, mW_a3, mW_a4, mW_a5, mW_a6, mW_a7, mW_a8, mW_s1, mW_s2, mW_s3, mW_s4, mW_s5, mW_s6, mW_s7, mW_s8, zk0, zk1, zk2, zk3, zk4, zk5, zk6, zk7, zk8, zl1, zl2, zl3, zl4, zl5, zl6, zl7, zl8, zr1, zr2, zr3, zr4, zr5, zr6, zr7, zr8, *]) <;> first | decide | (apply ix_ok rfl <;> first | omega | decide) | skip) only [mW_k, mW_l, mW_R, gR_I, zr1, zr2, zr3, zr4, zr5, zr6, zr7, zr8, fg_t, mW_a1, mW_a2, mW_a3, mW_a4, mW_a5, mW_a6, mW_a7, mW_a8, mW_s1, mW_s2, mW_s3, mW_s4, mW_s5, mW_s6, mW_s7, mW_s8, mW_sf, mW_f, Option.bind_some, up_s, up_n, show Int32.toNatClampNeg 0 = 0 from rfl, show Int32.toNatClampNeg 1 = 1 from rfl, show Int32.toNatClampNeg 2 = 2 from rfl, show Int32.toNatClampNeg 3 = 3 from rfl, show Int32.toNatClampNeg 4 = 4 from rfl, show Int32.toNatClampNeg 5 = 5 from rfl, show Int32.toNatClampNeg 6 = 6 from rfl, show Int32.toNatClampNeg 10 = 10 from rfl]
    rfl
  rw [if_neg b1, if_neg b1]
  by_cases b2 : b = 2
  · rw [if_pos b2, if_pos b2]
    simp (disch := first | assumption | decide | (simp only [mW_k, mW_l, mW_R, sI_k, sI_l, gR_I, mW_sf, mW_f, show Int32.toNatClampNeg 0 = 0 from rfl, show Int32.toNatClampNeg 1 = 1 from rfl, show Int32.toNatClampNeg 2 = 2 from rfl, show Int32.toNatClampNeg 3 = 3 from rfl, show Int32.toNatClampNeg 4 = 4 from rfl, show Int32.toNatClampNeg 5 = 5 from rfl, show Int32.toNatClampNeg 6 = 6 from rfl, show Int32.toNatClampNeg 10 = 10 from rfl, mW_a1, mW_a2, mW_a3, mW_a4, mW_a5, mW_a6, mW_a7, mW_a8, mW_s1, mW_s2, mW_s3, mW_s4, mW_s5, mW_s6, mW_s7, mW_s8, zk0, zk1, zk2, zk3, zk4, zk5, zk6, zk7, zk8, zl1, zl2, zl3, zl4, zl5, zl6, zl7, zl8, zr1, zr2, zr3, zr4, zr5, zr6, zr7, zr8, *]) <;> first | decide | (apply ix_ok rfl <;> first | omega | decide) | skip) only [mW_k, mW_l, mW_R, gR_I, zr1, zr2, zr3, zr4, zr5, zr6, zr7, zr8, fg_t, mW_a1, mW_a2, mW_a3, mW_a4, mW_a5, mW_a6, mW_a7, mW_a8, mW_s1, mW_s2, mW_s3, mW_s4, mW_s5, mW_s6, mW_s7, mW_s8, mW_sf, mW_f, Option.bind_some, up_s, up_n, show Int32.toNatClampNeg 0 = 0 from rfl, show Int32.toNatClampNeg 1 = 1 from rfl, show Int32.toNatClampNeg 2 = 2 from rfl, show Int32.toNatClampNeg 3 = 3 from rfl, show Int32.toNatClampNeg 4 = 4 from rfl, show Int32.toNatClampNeg 5 = 5 from rfl, show Int32.toNatClampNeg 6 = 6 from rfl, show Int32.toNatClampNeg 10 = 10 from rfl]
    rfl
  rw [if_neg b2, if_neg b2]
  by_cases b3 : b = 3
  · rw [if_pos b3, if_pos b3]
    rw [mW_sf]
    exact ob (m_openMany hB) rfl
  rw [if_neg b3, if_neg b3]
  by_cases b4 : b = 4
  · rw [if_pos b4, if_pos b4]
    rw [mW_sf]
    exact ob (m_tornMany hB hn h8) rfl
  rw [if_neg b4, if_neg b4]
  by_cases b5 : b = 5
  · rw [if_pos b5, if_pos b5]
    rw [mW_sf]
    exact ob (m_lostMany hB hn h8) rfl
  rw [if_neg b5, if_neg b5]
  by_cases b6 : b = 6
  · rw [if_pos b6, if_pos b6]
    rw [mW_sf]
    exact ob (m_punchedMany hB hn h8) rfl
  rw [if_neg b6, if_neg b6]
  by_cases b7 : b = 7
  · rw [if_pos b7, if_pos b7]
    rw [mW_sf]
    exact ob (m_allLeft hB hn h8 (fun t ht => (hT t ht).len)) rfl
  rw [if_neg b7, if_neg b7]
  by_cases b8 : b = 8
  · rw [if_pos b8, if_pos b8]
    simp (disch := first | assumption | decide | (simp only [mW_k, mW_l, mW_R, sI_k, sI_l, gR_I, mW_sf, mW_f, show Int32.toNatClampNeg 0 = 0 from rfl, show Int32.toNatClampNeg 1 = 1 from rfl, show Int32.toNatClampNeg 2 = 2 from rfl, show Int32.toNatClampNeg 3 = 3 from rfl, show Int32.toNatClampNeg 4 = 4 from rfl, show Int32.toNatClampNeg 5 = 5 from rfl, show Int32.toNatClampNeg 6 = 6 from rfl, show Int32.toNatClampNeg 10 = 10 from rfl, mW_a1, mW_a2, mW_a3, mW_a4, mW_a5, mW_a6, mW_a7, mW_a8, mW_s1, mW_s2, mW_s3, mW_s4, mW_s5, mW_s6, mW_s7, mW_s8, zk0, zk1, zk2, zk3, zk4, zk5, zk6, zk7, zk8, zl1, zl2, zl3, zl4, zl5, zl6, zl7, zl8, zr1, zr2, zr3, zr4, zr5, zr6, zr7, zr8, *]) <;> first | decide | (apply ix_ok rfl <;> first | omega | decide) | skip) only [mW_k, mW_l, mW_R, gR_I, zr1, zr2, zr3, zr4, zr5, zr6, zr7, zr8, fg_t, mW_a1, mW_a2, mW_a3, mW_a4, mW_a5, mW_a6, mW_a7, mW_a8, mW_s1, mW_s2, mW_s3, mW_s4, mW_s5, mW_s6, mW_s7, mW_s8, mW_sf, mW_f, Option.bind_some, up_s, up_n, show Int32.toNatClampNeg 0 = 0 from rfl, show Int32.toNatClampNeg 1 = 1 from rfl, show Int32.toNatClampNeg 2 = 2 from rfl, show Int32.toNatClampNeg 3 = 3 from rfl, show Int32.toNatClampNeg 4 = 4 from rfl, show Int32.toNatClampNeg 5 = 5 from rfl, show Int32.toNatClampNeg 6 = 6 from rfl, show Int32.toNatClampNeg 10 = 10 from rfl]
    rfl
  rw [if_neg b8, if_neg b8]
  by_cases b9 : b = 9
  · rw [if_pos b9, if_pos b9]
    simp (disch := first | assumption | decide | (simp only [mW_k, mW_l, mW_R, sI_k, sI_l, gR_I, mW_sf, mW_f, show Int32.toNatClampNeg 0 = 0 from rfl, show Int32.toNatClampNeg 1 = 1 from rfl, show Int32.toNatClampNeg 2 = 2 from rfl, show Int32.toNatClampNeg 3 = 3 from rfl, show Int32.toNatClampNeg 4 = 4 from rfl, show Int32.toNatClampNeg 5 = 5 from rfl, show Int32.toNatClampNeg 6 = 6 from rfl, show Int32.toNatClampNeg 10 = 10 from rfl, mW_a1, mW_a2, mW_a3, mW_a4, mW_a5, mW_a6, mW_a7, mW_a8, mW_s1, mW_s2, mW_s3, mW_s4, mW_s5, mW_s6, mW_s7, mW_s8, zk0, zk1, zk2, zk3, zk4, zk5, zk6, zk7, zk8, zl1, zl2, zl3, zl4, zl5, zl6, zl7, zl8, zr1, zr2, zr3, zr4, zr5, zr6, zr7, zr8, *]) <;> first | decide | (apply ix_ok rfl <;> first | omega | decide) | skip) only [mW_k, mW_l, mW_R, gR_I, zr1, zr2, zr3, zr4, zr5, zr6, zr7, zr8, fg_t, mW_a1, mW_a2, mW_a3, mW_a4, mW_a5, mW_a6, mW_a7, mW_a8, mW_s1, mW_s2, mW_s3, mW_s4, mW_s5, mW_s6, mW_s7, mW_s8, mW_sf, mW_f, Option.bind_some, up_s, up_n, show Int32.toNatClampNeg 0 = 0 from rfl, show Int32.toNatClampNeg 1 = 1 from rfl, show Int32.toNatClampNeg 2 = 2 from rfl, show Int32.toNatClampNeg 3 = 3 from rfl, show Int32.toNatClampNeg 4 = 4 from rfl, show Int32.toNatClampNeg 5 = 5 from rfl, show Int32.toNatClampNeg 6 = 6 from rfl, show Int32.toNatClampNeg 10 = 10 from rfl]
    rfl
  rw [if_neg b9, if_neg b9]
  by_cases b10 : b = 10
  · rw [if_pos b10, if_pos b10]
    simp (disch := first | assumption | decide | (simp only [mW_k, mW_l, mW_R, sI_k, sI_l, gR_I, mW_sf, mW_f, show Int32.toNatClampNeg 0 = 0 from rfl, show Int32.toNatClampNeg 1 = 1 from rfl, show Int32.toNatClampNeg 2 = 2 from rfl, show Int32.toNatClampNeg 3 = 3 from rfl, show Int32.toNatClampNeg 4 = 4 from rfl, show Int32.toNatClampNeg 5 = 5 from rfl, show Int32.toNatClampNeg 6 = 6 from rfl, show Int32.toNatClampNeg 10 = 10 from rfl, mW_a1, mW_a2, mW_a3, mW_a4, mW_a5, mW_a6, mW_a7, mW_a8, mW_s1, mW_s2, mW_s3, mW_s4, mW_s5, mW_s6, mW_s7, mW_s8, zk0, zk1, zk2, zk3, zk4, zk5, zk6, zk7, zk8, zl1, zl2, zl3, zl4, zl5, zl6, zl7, zl8, zr1, zr2, zr3, zr4, zr5, zr6, zr7, zr8, *]) <;> first | decide | (apply ix_ok rfl <;> first | omega | decide) | skip) only [mW_k, mW_l, mW_R, gR_I, zr1, zr2, zr3, zr4, zr5, zr6, zr7, zr8, fg_t, mW_a1, mW_a2, mW_a3, mW_a4, mW_a5, mW_a6, mW_a7, mW_a8, mW_s1, mW_s2, mW_s3, mW_s4, mW_s5, mW_s6, mW_s7, mW_s8, mW_sf, mW_f, Option.bind_some, up_s, up_n, show Int32.toNatClampNeg 0 = 0 from rfl, show Int32.toNatClampNeg 1 = 1 from rfl, show Int32.toNatClampNeg 2 = 2 from rfl, show Int32.toNatClampNeg 3 = 3 from rfl, show Int32.toNatClampNeg 4 = 4 from rfl, show Int32.toNatClampNeg 5 = 5 from rfl, show Int32.toNatClampNeg 6 = 6 from rfl, show Int32.toNatClampNeg 10 = 10 from rfl]
    rfl
  rw [if_neg b10, if_neg b10]
  by_cases b11 : b = 11
  · rw [if_pos b11, if_pos b11]
    simp (disch := first | assumption | decide | (simp only [mW_k, mW_l, mW_R, sI_k, sI_l, gR_I, mW_sf, mW_f, show Int32.toNatClampNeg 0 = 0 from rfl, show Int32.toNatClampNeg 1 = 1 from rfl, show Int32.toNatClampNeg 2 = 2 from rfl, show Int32.toNatClampNeg 3 = 3 from rfl, show Int32.toNatClampNeg 4 = 4 from rfl, show Int32.toNatClampNeg 5 = 5 from rfl, show Int32.toNatClampNeg 6 = 6 from rfl, show Int32.toNatClampNeg 10 = 10 from rfl, mW_a1, mW_a2, mW_a3, mW_a4, mW_a5, mW_a6, mW_a7, mW_a8, mW_s1, mW_s2, mW_s3, mW_s4, mW_s5, mW_s6, mW_s7, mW_s8, zk0, zk1, zk2, zk3, zk4, zk5, zk6, zk7, zk8, zl1, zl2, zl3, zl4, zl5, zl6, zl7, zl8, zr1, zr2, zr3, zr4, zr5, zr6, zr7, zr8, *]) <;> first | decide | (apply ix_ok rfl <;> first | omega | decide) | skip) only [mW_k, mW_l, mW_R, gR_I, zr1, zr2, zr3, zr4, zr5, zr6, zr7, zr8, fg_t, mW_a1, mW_a2, mW_a3, mW_a4, mW_a5, mW_a6, mW_a7, mW_a8, mW_s1, mW_s2, mW_s3, mW_s4, mW_s5, mW_s6, mW_s7, mW_s8, mW_sf, mW_f, Option.bind_some, up_s, up_n, show Int32.toNatClampNeg 0 = 0 from rfl, show Int32.toNatClampNeg 1 = 1 from rfl, show Int32.toNatClampNeg 2 = 2 from rfl, show Int32.toNatClampNeg 3 = 3 from rfl, show Int32.toNatClampNeg 4 = 4 from rfl, show Int32.toNatClampNeg 5 = 5 from rfl, show Int32.toNatClampNeg 6 = 6 from rfl, show Int32.toNatClampNeg 10 = 10 from rfl]
    rfl
  rw [if_neg b11, if_neg b11]
  by_cases b12 : b = 12
  · rw [if_pos b12, if_pos b12, mW_sf, mW_f, up_n (by decide)]
    rfl
  rw [if_neg b12, if_neg b12]
  by_cases b13 : b = 13
  · rw [if_pos b13, if_pos b13, mW_sf, mW_f, up_n (by decide)]
    rfl
  rw [if_neg b13, if_neg b13, mW_sf]
  exact ob (m_fails hB 1) (by rw [up_up]; rfl)
theorem m_isRead0 (hB : MB w M) {t : Nat} (ht : t < 8) (hn : aT (ar 1) t 0 = nI (aLen (ar 1) t)) (h6 : aLen (ar 1) t ≤ 6) : F_X5_isRead M (nI t) 0 (mW w M fl ar) = some (aIsRead (ar 1) t 0) := m_isRead hB (h := 0) ht (by decide) hn h6
theorem m_isRead1 (hB : MB w M) {t : Nat} (ht : t < 8) (hn : aT (ar 1) t 0 = nI (aLen (ar 1) t)) (h6 : aLen (ar 1) t ≤ 6) : F_X5_isRead M (nI t) 1 (mW w M fl ar) = some (aIsRead (ar 1) t 1) := m_isRead hB (h := 1) ht (by decide) hn h6
def qVd (r : UInt64 ⊕ Nat) : UInt64 := match r with
  | .inl v => v
  | .inr _ => 0
def qVf (r : UInt32 ⊕ Nat) : UInt32 := match r with
  | .inl v => v
  | .inr _ => 0
theorem mq_meanWet (hB : MB w M) (hA : WA (ar 1)) : F_X5_meanWet M (mW w M fl ar) = some (qVd (qMeanWet (ar 1)), mW w M (up fl 500 (wK [3] (qMeanWet (ar 1)))) ar) := by
  obtain ⟨zk0, zk1, zk2, zk3, zk4, zk5, zk6, zk7, zk8, zl1, zl2, zl3, zl4, zl5, zl6, zl7, zl8, zr1, zr2, zr3, zr4, zr5, zr6, zr7, zr8⟩ := id hB
  obtain ⟨hn, h8, hT⟩ := hA.n
  unfold F_X5_meanWet qMeanWet
  refine (fg_t (show (mW w M fl ar).1 M = 6 from zk0)).trans ?_
  refine (fg_t (by rw [mW_R, zr1]; exact zk1)).trans ?_
  refine (fg_t (by rw [mW_R, zr1, mW_l, zl1]; decide)).trans ?_
  rw [mW_R, zr1, mW_a1, show Int32.toNatClampNeg 0 = 0 from rfl]
  by_cases h0 : ar 1 0 = 0
  · rw [if_pos h0, if_pos h0, Option.bind_some, mW_sf, mW_f, up_s, if_neg (show ¬ (1 : Int32) ≤ 0 by decide)]
    rfl
  rw [if_neg h0, if_neg h0, Option.bind_some, mW_sf, mW_f, up_s, if_pos (show (0 : Int32) ≤ 0 by decide)]
  have hm := (meanWet_ok hA h0).1
  refine fLoop_bind (r := aWetMany (ar 1)) (fun k => (cnt (fun t => aMeas (ar 1) t 0) k, nI k)) (aN (ar 1)) rfl (fun t hk => ?_) ?_ ?_
  · have c1 : ¬ nI (aN (ar 1)) ≤ nI t := nI_ge hk (by omega)
    have ht8 : t < 8 := by omega
    have hl := (hT t hk).len
    simp (disch := first | assumption | decide | (simp only [mW_k, mW_l, mW_R, sI_k, sI_l, gR_I, mW_sf, mW_f, show Int32.toNatClampNeg 0 = 0 from rfl, show Int32.toNatClampNeg 1 = 1 from rfl, show Int32.toNatClampNeg 2 = 2 from rfl, show Int32.toNatClampNeg 3 = 3 from rfl, show Int32.toNatClampNeg 4 = 4 from rfl, show Int32.toNatClampNeg 5 = 5 from rfl, show Int32.toNatClampNeg 6 = 6 from rfl, show Int32.toNatClampNeg 10 = 10 from rfl, mW_a1, mW_a2, mW_a3, mW_a4, mW_a5, mW_a6, mW_a7, mW_a8, mW_s1, mW_s2, mW_s3, mW_s4, mW_s5, mW_s6, mW_s7, mW_s8, zk0, zk1, zk2, zk3, zk4, zk5, zk6, zk7, zk8, zl1, zl2, zl3, zl4, zl5, zl6, zl7, zl8, zr1, zr2, zr3, zr4, zr5, zr6, zr7, zr8, *]) <;> first | decide | (apply ix_ok rfl <;> first | omega | decide) | skip) only [mW_k, mW_l, mW_R, gR_I, zr1, zr2, zr3, zr4, zr5, zr6, zr7, zr8, fg_t, mW_a1, mW_a2, mW_a3, mW_a4, mW_a5, mW_a6, mW_a7, mW_a8, mW_s1, mW_s2, mW_s3, mW_s4, mW_s5, mW_s6, mW_s7, mW_s8, mW_sf, mW_f, Option.bind_some, up_s, up_n, show Int32.toNatClampNeg 0 = 0 from rfl, show Int32.toNatClampNeg 1 = 1 from rfl, show Int32.toNatClampNeg 2 = 2 from rfl, show Int32.toNatClampNeg 3 = 3 from rfl, show Int32.toNatClampNeg 4 = 4 from rfl, show Int32.toNatClampNeg 5 = 5 from rfl, show Int32.toNatClampNeg 6 = 6 from rfl, show Int32.toNatClampNeg 10 = 10 from rfl, hn, if_neg c1, m_measureOf hB ht8 hl.1 hl.2, nI_1, cnt_s]
  · have c1 : nI (aN (ar 1)) ≤ nI (aN (ar 1)) := nI_le (Nat.le_refl _) (by omega)
    simp (disch := first | assumption | decide | (simp only [mW_k, mW_l, mW_R, sI_k, sI_l, gR_I, mW_sf, mW_f, show Int32.toNatClampNeg 0 = 0 from rfl, show Int32.toNatClampNeg 1 = 1 from rfl, show Int32.toNatClampNeg 2 = 2 from rfl, show Int32.toNatClampNeg 3 = 3 from rfl, show Int32.toNatClampNeg 4 = 4 from rfl, show Int32.toNatClampNeg 5 = 5 from rfl, show Int32.toNatClampNeg 6 = 6 from rfl, show Int32.toNatClampNeg 10 = 10 from rfl, mW_a1, mW_a2, mW_a3, mW_a4, mW_a5, mW_a6, mW_a7, mW_a8, mW_s1, mW_s2, mW_s3, mW_s4, mW_s5, mW_s6, mW_s7, mW_s8, zk0, zk1, zk2, zk3, zk4, zk5, zk6, zk7, zk8, zl1, zl2, zl3, zl4, zl5, zl6, zl7, zl8, zr1, zr2, zr3, zr4, zr5, zr6, zr7, zr8, *]) <;> first | decide | (apply ix_ok rfl <;> first | omega | decide) | skip) only [mW_k, mW_l, mW_R, gR_I, zr1, zr2, zr3, zr4, zr5, zr6, zr7, zr8, fg_t, mW_a1, mW_a2, mW_a3, mW_a4, mW_a5, mW_a6, mW_a7, mW_a8, mW_s1, mW_s2, mW_s3, mW_s4, mW_s5, mW_s6, mW_s7, mW_s8, mW_sf, mW_f, Option.bind_some, up_s, up_n, show Int32.toNatClampNeg 0 = 0 from rfl, show Int32.toNatClampNeg 1 = 1 from rfl, show Int32.toNatClampNeg 2 = 2 from rfl, show Int32.toNatClampNeg 3 = 3 from rfl, show Int32.toNatClampNeg 4 = 4 from rfl, show Int32.toNatClampNeg 5 = 5 from rfl, show Int32.toNatClampNeg 6 = 6 from rfl, show Int32.toNatClampNeg 10 = 10 from rfl, hn, if_pos c1]
    rfl
  · rw [mW_R, zr1, mW_a1]
    exact fg_t hm
theorem mq_readShare (hB : MB w M) (hA : WA (ar 1)) : F_X5_readShare M (mW w M fl ar) = some (qVf (qReadShare (ar 1)), mW w M (up fl 500 (wK [3] (qReadShare (ar 1)))) ar) := by
  obtain ⟨zk0, zk1, zk2, zk3, zk4, zk5, zk6, zk7, zk8, zl1, zl2, zl3, zl4, zl5, zl6, zl7, zl8, zr1, zr2, zr3, zr4, zr5, zr6, zr7, zr8⟩ := id hB
  obtain ⟨hn, h8, hT⟩ := hA.n
  unfold F_X5_readShare qReadShare
  refine (fg_t (show (mW w M fl ar).1 M = 6 from zk0)).trans ?_
  refine ob (m_punchedMany hB hn h8) ?_
  by_cases h0 : aPunched (ar 1) = 0
  · rw [if_pos h0, if_pos h0, Option.bind_some, mW_sf, mW_f, up_s, if_neg (show ¬ (1 : Int32) ≤ 0 by decide)]
    rfl
  rw [if_neg h0, if_neg h0, Option.bind_some, mW_sf, mW_f, up_s, if_pos (show (0 : Int32) ≤ 0 by decide)]
  have hm := (readShare_ok hA h0).1
  have zr : ∀ t h, zz (aIsRead (ar 1) t h) = aIsRead (ar 1) t h := fun t h => if_id (read_01 (ar 1) t h)
  refine fLoop_bind (r := aReadMany (ar 1)) (fun k => (cnt (fun t => aIsRead (ar 1) t 0 + aIsRead (ar 1) t 1) k, nI k)) (aN (ar 1)) rfl (fun t hk => ?_) ?_ ?_
  · have c1 : ¬ nI (aN (ar 1)) ≤ nI t := nI_ge hk (by omega)
    have ht8 : t < 8 := by omega
    have hl := (hT t hk).len
    simp (disch := first | assumption | decide | (simp only [mW_k, mW_l, mW_R, sI_k, sI_l, gR_I, mW_sf, mW_f, show Int32.toNatClampNeg 0 = 0 from rfl, show Int32.toNatClampNeg 1 = 1 from rfl, show Int32.toNatClampNeg 2 = 2 from rfl, show Int32.toNatClampNeg 3 = 3 from rfl, show Int32.toNatClampNeg 4 = 4 from rfl, show Int32.toNatClampNeg 5 = 5 from rfl, show Int32.toNatClampNeg 6 = 6 from rfl, show Int32.toNatClampNeg 10 = 10 from rfl, mW_a1, mW_a2, mW_a3, mW_a4, mW_a5, mW_a6, mW_a7, mW_a8, mW_s1, mW_s2, mW_s3, mW_s4, mW_s5, mW_s6, mW_s7, mW_s8, zk0, zk1, zk2, zk3, zk4, zk5, zk6, zk7, zk8, zl1, zl2, zl3, zl4, zl5, zl6, zl7, zl8, zr1, zr2, zr3, zr4, zr5, zr6, zr7, zr8, *]) <;> first | decide | (apply ix_ok rfl <;> first | omega | decide) | skip) only [mW_k, mW_l, mW_R, gR_I, zr1, zr2, zr3, zr4, zr5, zr6, zr7, zr8, fg_t, mW_a1, mW_a2, mW_a3, mW_a4, mW_a5, mW_a6, mW_a7, mW_a8, mW_s1, mW_s2, mW_s3, mW_s4, mW_s5, mW_s6, mW_s7, mW_s8, mW_sf, mW_f, Option.bind_some, up_s, up_n, show Int32.toNatClampNeg 0 = 0 from rfl, show Int32.toNatClampNeg 1 = 1 from rfl, show Int32.toNatClampNeg 2 = 2 from rfl, show Int32.toNatClampNeg 3 = 3 from rfl, show Int32.toNatClampNeg 4 = 4 from rfl, show Int32.toNatClampNeg 5 = 5 from rfl, show Int32.toNatClampNeg 6 = 6 from rfl, show Int32.toNatClampNeg 10 = 10 from rfl, hn, if_neg c1, m_isRead0 hB ht8 hl.1 hl.2, m_isRead1 hB ht8 hl.1 hl.2, m_number, zr, nI_1, cnt_s]
  · have c1 : nI (aN (ar 1)) ≤ nI (aN (ar 1)) := nI_le (Nat.le_refl _) (by omega)
    simp (disch := first | assumption | decide | (simp only [mW_k, mW_l, mW_R, sI_k, sI_l, gR_I, mW_sf, mW_f, show Int32.toNatClampNeg 0 = 0 from rfl, show Int32.toNatClampNeg 1 = 1 from rfl, show Int32.toNatClampNeg 2 = 2 from rfl, show Int32.toNatClampNeg 3 = 3 from rfl, show Int32.toNatClampNeg 4 = 4 from rfl, show Int32.toNatClampNeg 5 = 5 from rfl, show Int32.toNatClampNeg 6 = 6 from rfl, show Int32.toNatClampNeg 10 = 10 from rfl, mW_a1, mW_a2, mW_a3, mW_a4, mW_a5, mW_a6, mW_a7, mW_a8, mW_s1, mW_s2, mW_s3, mW_s4, mW_s5, mW_s6, mW_s7, mW_s8, zk0, zk1, zk2, zk3, zk4, zk5, zk6, zk7, zk8, zl1, zl2, zl3, zl4, zl5, zl6, zl7, zl8, zr1, zr2, zr3, zr4, zr5, zr6, zr7, zr8, *]) <;> first | decide | (apply ix_ok rfl <;> first | omega | decide) | skip) only [mW_k, mW_l, mW_R, gR_I, zr1, zr2, zr3, zr4, zr5, zr6, zr7, zr8, fg_t, mW_a1, mW_a2, mW_a3, mW_a4, mW_a5, mW_a6, mW_a7, mW_a8, mW_s1, mW_s2, mW_s3, mW_s4, mW_s5, mW_s6, mW_s7, mW_s8, mW_sf, mW_f, Option.bind_some, up_s, up_n, show Int32.toNatClampNeg 0 = 0 from rfl, show Int32.toNatClampNeg 1 = 1 from rfl, show Int32.toNatClampNeg 2 = 2 from rfl, show Int32.toNatClampNeg 3 = 3 from rfl, show Int32.toNatClampNeg 4 = 4 from rfl, show Int32.toNatClampNeg 5 = 5 from rfl, show Int32.toNatClampNeg 6 = 6 from rfl, show Int32.toNatClampNeg 10 = 10 from rfl, hn, if_pos c1]
    rfl
  · refine ob (m_punchedMany hB hn h8) ?_
    exact fg_t hm
theorem mq_refusal (hB : MB w M) (d : Int32) : F_X5_refusal M d (mW w M fl ar) = some (qV (qRefusal d (fl 515) (fl 516)), mW w M (up fl 500 (wK [0] (qRefusal d (fl 515) (fl 516)))) ar) := by
  obtain ⟨zk0, zk1, zk2, zk3, zk4, zk5, zk6, zk7, zk8, zl1, zl2, zl3, zl4, zl5, zl6, zl7, zl8, zr1, zr2, zr3, zr4, zr5, zr6, zr7, zr8⟩ := id hB
  unfold F_X5_refusal qRefusal
  refine (fg_t (show (mW w M fl ar).1 M = 6 from zk0)).trans ?_
  rw [mW_f]
  by_cases h0 : fl 515 = 0
  · rw [if_pos h0, if_pos h0, Option.bind_some, mW_sf, mW_f, up_s, if_neg (show ¬ (1 : Int32) ≤ 0 by decide)]
    rfl
  rw [if_neg h0, if_neg h0, Option.bind_some, mW_sf, mW_f, up_s, if_pos (show (0 : Int32) ≤ 0 by decide), mW_f, mW_f, up_n (by decide), up_n (by decide)]
  by_cases hd : d = 0
  · rw [if_pos hd, if_pos hd]
    rfl
  · rw [if_neg hd, if_neg hd]
    rfl
theorem mq_errorPosition (hB : MB w M) : F_X5_errorPosition M (mW w M fl ar) = some (qV (qPos (fl 513)), mW w M (up fl 500 (wK [5] (qPos (fl 513)))) ar) := by
  obtain ⟨zk0, zk1, zk2, zk3, zk4, zk5, zk6, zk7, zk8, zl1, zl2, zl3, zl4, zl5, zl6, zl7, zl8, zr1, zr2, zr3, zr4, zr5, zr6, zr7, zr8⟩ := id hB
  unfold F_X5_errorPosition qPos
  refine (fg_t (show (mW w M fl ar).1 M = 6 from zk0)).trans ?_
  rw [mW_sf, mW_f, up_n (by decide)]
  by_cases h0 : fl 513 = -1
  · rw [if_pos h0, if_pos h0]
    exact ob (m_fails hB 1) (by rw [up_up]; rfl)
  · rw [if_neg h0, if_neg h0]
    rfl
theorem mq_refusedItem (hB : MB w M) : F_X5_refusedItem M (mW w M fl ar) = some (qV (qPos (fl 514)), mW w M (up fl 500 (wK [5] (qPos (fl 514)))) ar) := by
  obtain ⟨zk0, zk1, zk2, zk3, zk4, zk5, zk6, zk7, zk8, zl1, zl2, zl3, zl4, zl5, zl6, zl7, zl8, zr1, zr2, zr3, zr4, zr5, zr6, zr7, zr8⟩ := id hB
  unfold F_X5_refusedItem qPos
  refine (fg_t (show (mW w M fl ar).1 M = 6 from zk0)).trans ?_
  rw [mW_sf, mW_f, up_n (by decide)]
  by_cases h0 : fl 514 = -1
  · rw [if_pos h0, if_pos h0]
    exact ob (m_fails hB 1) (by rw [up_up]; rfl)
  · rw [if_neg h0, if_neg h0]
    rfl
end MQ2
