/-! The reference's public acts -/
theorem sPrint_congr {g : Nat} {f t c : Int32} {G G' A : Nat → Int32} (h : ∀ i, 1 ≤ i → i ≤ g → G i = G' i) (h0 : G 0 = G' 0) : sPrint g f t c G A = sPrint g f t c G' A := by
  have e1 : gVow G g = gVow G' g := cnt_congr (fun k hk => by rw [h (k + 1) (by omega) (by omega)])
  have e2 : ∀ n, printA n g f t c G A = printA n g f t c G' A := by
    intro n
    funext i
    unfold printA
    by_cases r1 : 17 + 20 * n ≤ i ∧ i < 17 + 20 * n + 20
    · by_cases r2 : i < 17 + 20 * n + (g + 1)
      · have : G (i - (17 + 20 * n)) = G' (i - (17 + 20 * n)) := by
          by_cases z : i - (17 + 20 * n) = 0
          · rw [z]; exact h0
          · exact h _ (by omega) (by omega)
        simp only [this]
      · simp only [if_neg r2]
    · simp only [if_neg r1]
  unfold sPrint
  rw [e1, e2]
def sPrintD (n : Nat) (f t c : Int32) (A : Nat → Int32) : Out := if (sPrint n f t c (fun k => A (10 + k)) A).1 = 0 then (0, (sPrint n f t c (fun k => A (10 + k)) A).2.1, zrA 10 7 (sPrint n f t c (fun k => A (10 + k)) A).2.2) else sPrint n f t c (fun k => A (10 + k)) A
section MG
variable {w : FW} {M : Nat} {fl : Nat → Int32} {ar : Nat → Nat → Int32}
theorem m_pub (hB : MB w M) {o : Option (Int32 × FW)} {r : Out} (code : Int32) {n : Nat} (h : o = some (mOut w M fl ar r)) (hk : fl 505 = nI n) (h8 : n ≤ 8) : o.bind (fun r5 => (F_X5_ends M r5.1 code r5.2).bind (fun r8 => some (r8.1, r8.2))) = some (eA code r, mW w M (eF fl code n r) (up (up ar 1 r.2.2) 4 (eH n (ar 2) (ar 4) r))) := by
  refine ob h ?_
  refine ob (m_ends hB code r hk h8) ?_
  rfl
/-- behind remembers -/
def rF (fl : Nat → Int32) : Nat → Int32 := up fl 500 0
def rA (ar : Nat → Nat → Int32) : Nat → Nat → Int32 := up ar 2 (cp 177 (ar 1) (ar 2))
theorem rF_n {fl : Nat → Int32} {c : Nat} (h : ¬ c = 500) : rF fl c = fl c := up_n h
theorem rA_1 (ar : Nat → Nat → Int32) : rA ar 1 = ar 1 := up_n (by decide)
theorem rA_2 (ar : Nat → Nat → Int32) : rA ar 2 = cp 177 (ar 1) (ar 2) := up_s _ _ _
theorem rA_4 (ar : Nat → Nat → Int32) : rA ar 4 = ar 4 := up_n (by decide)
/-- the world behind a public act -/
def pubW (w : FW) (M : Nat) (fl : Nat → Int32) (ar : Nat → Nat → Int32) (code : Int32) (n : Nat) (r : Out) : FW := mW w M (eF (rF fl) code n r) (up (up (rA ar) 1 r.2.2) 4 (eH n (cp 177 (ar 1) (ar 2)) (ar 4) r))
theorem m_letter (hB : MB w M) (c : Int32) {d : Nat} (hd : ar 1 10 = nI d) (h6 : d ≤ 6) {n : Nat} (hk : fl 505 = nI n) (h8n : n ≤ 8) : F_X5_letter M c (mW w M fl ar) = some (eA 2 (sLetter c (ar 1)), pubW w M fl ar 2 n (sLetter c (ar 1))) := by
  obtain ⟨zk0, zk1, zk2, zk3, zk4, zk5, zk6, zk7, zk8, zl1, zl2, zl3, zl4, zl5, zl6, zl7, zl8, zr1, zr2, zr3, zr4, zr5, zr6, zr7, zr8⟩ := id hB
  unfold F_X5_letter
  refine (fg_t (show (mW w M fl ar).1 M = 6 from zk0)).trans ?_
  refine ob (m_remembers hB) ?_
  refine (m_pub (fl := rF fl) (ar := rA ar) (n := n) (r := sLetter c (ar 1)) hB 2 (by have := m_addsLetter (fl := rF fl) (ar := rA ar) hB c (n := d) (by rw [rA_1]; exact hd) h6; rw [rA_1] at this; exact this) (by rw [rF_n (by decide)]; exact hk) h8n).trans ?_
  unfold pubW
  rw [rA_2, rA_4]
theorem m_unletter (hB : MB w M) {d : Nat} (hd : ar 1 10 = nI d) (h6 : d ≤ 6) {n : Nat} (hk : fl 505 = nI n) (h8n : n ≤ 8) : F_X5_unletter M (mW w M fl ar) = some (eA 1 (sUnletter (ar 1)), pubW w M fl ar 1 n (sUnletter (ar 1))) := by
  obtain ⟨zk0, zk1, zk2, zk3, zk4, zk5, zk6, zk7, zk8, zl1, zl2, zl3, zl4, zl5, zl6, zl7, zl8, zr1, zr2, zr3, zr4, zr5, zr6, zr7, zr8⟩ := id hB
  unfold F_X5_unletter
  refine (fg_t (show (mW w M fl ar).1 M = 6 from zk0)).trans ?_
  refine ob (m_remembers hB) ?_
  refine (m_pub (fl := rF fl) (ar := rA ar) (n := n) (r := sUnletter (ar 1)) hB 1 (by have := m_takesLetter (fl := rF fl) (ar := rA ar) hB (n := d) (by rw [rA_1]; exact hd) h6; rw [rA_1] at this; exact this) (by rw [rF_n (by decide)]; exact hk) h8n).trans ?_
  unfold pubW
  rw [rA_2, rA_4]
theorem m_throwAway (hB : MB w M) (x : Int32) (hn : ar 1 0 = nI (aN (ar 1))) (h8 : aN (ar 1) ≤ 8) {n : Nat} (hk : fl 505 = nI n) (h8n : n ≤ 8) : F_X5_throwAway M x (mW w M fl ar) = some (eA 2 (sAway x (ar 1)), pubW w M fl ar 2 n (sAway x (ar 1))) := by
  obtain ⟨zk0, zk1, zk2, zk3, zk4, zk5, zk6, zk7, zk8, zl1, zl2, zl3, zl4, zl5, zl6, zl7, zl8, zr1, zr2, zr3, zr4, zr5, zr6, zr7, zr8⟩ := id hB
  unfold F_X5_throwAway
  refine (fg_t (show (mW w M fl ar).1 M = 6 from zk0)).trans ?_
  refine ob (m_remembers hB) ?_
  refine (m_pub (fl := rF fl) (ar := rA ar) (n := n) (r := sAway x (ar 1)) hB 2 (by have := m_throwsAway (fl := rF fl) (ar := rA ar) hB x (by rw [rA_1]; exact hn) (by rw [rA_1]; exact h8); rw [rA_1] at this; exact this) (by rw [rF_n (by decide)]; exact hk) h8n).trans ?_
  unfold pubW
  rw [rA_2, rA_4]
theorem m_mood (hB : MB w M) (p m : Int32) {n : Nat} (hk : fl 505 = nI n) (h8n : n ≤ 8) : F_X5_mood M p m (mW w M fl ar) = some (eA 3 (sMood p m (ar 1)), pubW w M fl ar 3 n (sMood p m (ar 1))) := by
  obtain ⟨zk0, zk1, zk2, zk3, zk4, zk5, zk6, zk7, zk8, zl1, zl2, zl3, zl4, zl5, zl6, zl7, zl8, zr1, zr2, zr3, zr4, zr5, zr6, zr7, zr8⟩ := id hB
  unfold F_X5_mood
  refine (fg_t (show (mW w M fl ar).1 M = 6 from zk0)).trans ?_
  refine ob (m_remembers hB) ?_
  refine (m_pub (fl := rF fl) (ar := rA ar) (n := n) (r := sMood p m (ar 1)) hB 3 (by have := m_tellsMood (fl := rF fl) (ar := rA ar) hB p m; rw [rA_1] at this; exact this) (by rw [rF_n (by decide)]; exact hk) h8n).trans ?_
  unfold pubW
  rw [rA_2, rA_4]
theorem m_pier (hB : MB w M) (p z : Int32) {n : Nat} (hk : fl 505 = nI n) (h8n : n ≤ 8) : F_X5_pier M p z (mW w M fl ar) = some (eA 2 (sPier p z (ar 1)), pubW w M fl ar 2 n (sPier p z (ar 1))) := by
  obtain ⟨zk0, zk1, zk2, zk3, zk4, zk5, zk6, zk7, zk8, zl1, zl2, zl3, zl4, zl5, zl6, zl7, zl8, zr1, zr2, zr3, zr4, zr5, zr6, zr7, zr8⟩ := id hB
  unfold F_X5_pier
  refine (fg_t (show (mW w M fl ar).1 M = 6 from zk0)).trans ?_
  refine ob (m_remembers hB) ?_
  refine (m_pub (fl := rF fl) (ar := rA ar) (n := n) (r := sPier p z (ar 1)) hB 2 (by have := m_turnsPier (fl := rF fl) (ar := rA ar) hB p z; rw [rA_1] at this; exact this) (by rw [rF_n (by decide)]; exact hk) h8n).trans ?_
  unfold pubW
  rw [rA_2, rA_4]
theorem m_day (hB : MB w M) {n : Nat} (hk : fl 505 = nI n) (h8n : n ≤ 8) : F_X5_day M (mW w M fl ar) = some (eA 1 (sDay (ar 1)), pubW w M fl ar 1 n (sDay (ar 1))) := by
  obtain ⟨zk0, zk1, zk2, zk3, zk4, zk5, zk6, zk7, zk8, zl1, zl2, zl3, zl4, zl5, zl6, zl7, zl8, zr1, zr2, zr3, zr4, zr5, zr6, zr7, zr8⟩ := id hB
  unfold F_X5_day
  refine (fg_t (show (mW w M fl ar).1 M = 6 from zk0)).trans ?_
  refine ob (m_remembers hB) ?_
  refine (m_pub (fl := rF fl) (ar := rA ar) (n := n) (r := sDay (ar 1)) hB 1 (by have := m_passes (fl := rF fl) (ar := rA ar) hB; rw [rA_1] at this; exact this) (by rw [rF_n (by decide)]; exact hk) h8n).trans ?_
  unfold pubW
  rw [rA_2, rA_4]
theorem m_tear (hB : MB w M) (x : Int32) (hn : ar 1 0 = nI (aN (ar 1))) (h8 : aN (ar 1) ≤ 8) {n : Nat} (hk : fl 505 = nI n) (h8n : n ≤ 8) : F_X5_tear M x (mW w M fl ar) = some (eA 2 (sTear x (ar 1)), pubW w M fl ar 2 n (sTear x (ar 1))) := by
  obtain ⟨zk0, zk1, zk2, zk3, zk4, zk5, zk6, zk7, zk8, zl1, zl2, zl3, zl4, zl5, zl6, zl7, zl8, zr1, zr2, zr3, zr4, zr5, zr6, zr7, zr8⟩ := id hB
  unfold F_X5_tear
  refine (fg_t (show (mW w M fl ar).1 M = 6 from zk0)).trans ?_
  refine ob (m_remembers hB) ?_
  refine (m_pub (fl := rF fl) (ar := rA ar) (n := n) (r := sTear x (ar 1)) hB 2 (by have := m_tears (fl := rF fl) (ar := rA ar) hB x (by rw [rA_1]; exact hn) (by rw [rA_1]; exact h8); rw [rA_1] at this; exact this) (by rw [rF_n (by decide)]; exact hk) h8n).trans ?_
  unfold pubW
  rw [rA_2, rA_4]
theorem m_punch (hB : MB w M) (x : Int32) {h : Nat} (hh : h < 2) (z : Int32) (hz : zz z = nI h) (p : Int32) (hn : ar 1 0 = nI (aN (ar 1))) (h8 : aN (ar 1) ≤ 8) (hl : ∀ t, t < aN (ar 1) → aT (ar 1) t 0 = nI (aLen (ar 1) t) ∧ aLen (ar 1) t ≤ 6) {n : Nat} (hk : fl 505 = nI n) (h8n : n ≤ 8) : F_X5_punch M x z p (mW w M fl ar) = some (eA 2 (sPunch x h p (ar 1)), pubW w M fl ar 2 n (sPunch x h p (ar 1))) := by
  obtain ⟨zk0, zk1, zk2, zk3, zk4, zk5, zk6, zk7, zk8, zl1, zl2, zl3, zl4, zl5, zl6, zl7, zl8, zr1, zr2, zr3, zr4, zr5, zr6, zr7, zr8⟩ := id hB
  unfold F_X5_punch
  refine (fg_t (show (mW w M fl ar).1 M = 6 from zk0)).trans ?_
  refine ob (m_remembers hB) ?_
  refine ob (m_number _ _) ?_
  rw [hz]
  refine (m_pub (fl := rF fl) (ar := rA ar) (n := n) (r := sPunch x h p (ar 1)) hB 2 (by have := m_punches (fl := rF fl) (ar := rA ar) hB x hh p (by rw [rA_1]; exact hn) (by rw [rA_1]; exact h8) (by rw [rA_1]; exact hl); rw [rA_1] at this; exact this) (by rw [rF_n (by decide)]; exact hk) h8n).trans ?_
  unfold pubW
  rw [rA_2, rA_4]
theorem m_wet (hB : MB w M) (x : Int32) {h : Nat} (hh : h < 2) (z : Int32) (hz : zz z = nI h) (p : Int32) (hn : ar 1 0 = nI (aN (ar 1))) (h8 : aN (ar 1) ≤ 8) {n : Nat} (hk : fl 505 = nI n) (h8n : n ≤ 8) : F_X5_wet M x z p (mW w M fl ar) = some (eA 3 (sWet x h p (ar 1)), pubW w M fl ar 3 n (sWet x h p (ar 1))) := by
  obtain ⟨zk0, zk1, zk2, zk3, zk4, zk5, zk6, zk7, zk8, zl1, zl2, zl3, zl4, zl5, zl6, zl7, zl8, zr1, zr2, zr3, zr4, zr5, zr6, zr7, zr8⟩ := id hB
  unfold F_X5_wet
  refine (fg_t (show (mW w M fl ar).1 M = 6 from zk0)).trans ?_
  refine ob (m_remembers hB) ?_
  refine ob (m_number _ _) ?_
  rw [hz]
  refine (m_pub (fl := rF fl) (ar := rA ar) (n := n) (r := sWet x h p (ar 1)) hB 3 (by have := m_makesWet (fl := rF fl) (ar := rA ar) hB x hh p (by rw [rA_1]; exact hn) (by rw [rA_1]; exact h8); rw [rA_1] at this; exact this) (by rw [rF_n (by decide)]; exact hk) h8n).trans ?_
  unfold pubW
  rw [rA_2, rA_4]
theorem m_lose (hB : MB w M) (x : Int32) {h : Nat} (hh : h < 2) (z : Int32) (hz : zz z = nI h) (hn : ar 1 0 = nI (aN (ar 1))) (h8 : aN (ar 1) ≤ 8) {n : Nat} (hk : fl 505 = nI n) (h8n : n ≤ 8) : F_X5_lose M x z (mW w M fl ar) = some (eA 2 (sLost x h 1 (ar 1)), pubW w M fl ar 2 n (sLost x h 1 (ar 1))) := by
  obtain ⟨zk0, zk1, zk2, zk3, zk4, zk5, zk6, zk7, zk8, zl1, zl2, zl3, zl4, zl5, zl6, zl7, zl8, zr1, zr2, zr3, zr4, zr5, zr6, zr7, zr8⟩ := id hB
  unfold F_X5_lose
  refine (fg_t (show (mW w M fl ar).1 M = 6 from zk0)).trans ?_
  refine ob (m_remembers hB) ?_
  refine ob (m_number _ _) ?_
  rw [hz]
  refine (m_pub (fl := rF fl) (ar := rA ar) (n := n) (r := sLost x h 1 (ar 1)) hB 2 (by have := m_goes (fl := rF fl) (ar := rA ar) hB x hh 1 (by rw [rA_1]; exact hn) (by rw [rA_1]; exact h8); rw [rA_1] at this; exact this) (by rw [rF_n (by decide)]; exact hk) h8n).trans ?_
  unfold pubW
  rw [rA_2, rA_4]
theorem m_find (hB : MB w M) (x : Int32) {h : Nat} (hh : h < 2) (z : Int32) (hz : zz z = nI h) (hn : ar 1 0 = nI (aN (ar 1))) (h8 : aN (ar 1) ≤ 8) {n : Nat} (hk : fl 505 = nI n) (h8n : n ≤ 8) : F_X5_find M x z (mW w M fl ar) = some (eA 2 (sLost x h 0 (ar 1)), pubW w M fl ar 2 n (sLost x h 0 (ar 1))) := by
  obtain ⟨zk0, zk1, zk2, zk3, zk4, zk5, zk6, zk7, zk8, zl1, zl2, zl3, zl4, zl5, zl6, zl7, zl8, zr1, zr2, zr3, zr4, zr5, zr6, zr7, zr8⟩ := id hB
  unfold F_X5_find
  refine (fg_t (show (mW w M fl ar).1 M = 6 from zk0)).trans ?_
  refine ob (m_remembers hB) ?_
  refine ob (m_number _ _) ?_
  rw [hz]
  refine (m_pub (fl := rF fl) (ar := rA ar) (n := n) (r := sLost x h 0 (ar 1)) hB 2 (by have := m_goes (fl := rF fl) (ar := rA ar) hB x hh 0 (by rw [rA_1]; exact hn) (by rw [rA_1]; exact h8); rw [rA_1] at this; exact this) (by rw [rF_n (by decide)]; exact hk) h8n).trans ?_
  unfold pubW
  rw [rA_2, rA_4]
theorem m_ride (hB : MB w M) (x : Int32) {h : Nat} (hh : h < 2) (z : Int32) (hz : zz z = nI h) (hn : ar 1 0 = nI (aN (ar 1))) (h8 : aN (ar 1) ≤ 8) (hw : ∀ t, t < aN (ar 1) → WTk (ar 1) t) {n : Nat} (hk : fl 505 = nI n) (h8n : n ≤ 8) : F_X5_ride M x z (mW w M fl ar) = some (eA 2 (sRide x h (ar 1)), pubW w M fl ar 2 n (sRide x h (ar 1))) := by
  obtain ⟨zk0, zk1, zk2, zk3, zk4, zk5, zk6, zk7, zk8, zl1, zl2, zl3, zl4, zl5, zl6, zl7, zl8, zr1, zr2, zr3, zr4, zr5, zr6, zr7, zr8⟩ := id hB
  unfold F_X5_ride
  refine (fg_t (show (mW w M fl ar).1 M = 6 from zk0)).trans ?_
  refine ob (m_remembers hB) ?_
  refine ob (m_number _ _) ?_
  rw [hz]
  refine (m_pub (fl := rF fl) (ar := rA ar) (n := n) (r := sRide x h (ar 1)) hB 2 (by have := m_rides (fl := rF fl) (ar := rA ar) hB x hh (by rw [rA_1]; exact hn) (by rw [rA_1]; exact h8) (by rw [rA_1]; exact hw); rw [rA_1] at this; exact this) (by rw [rF_n (by decide)]; exact hk) h8n).trans ?_
  unfold pubW
  rw [rA_2, rA_4]
theorem mOut_1 (w : FW) (M : Nat) (fl : Nat → Int32) (ar : Nat → Nat → Int32) (r : Out) : (mOut w M fl ar r).1 = r.1 := rfl
theorem m_printsDraft (hB : MB w M) (f t c : Int32) (hn : ar 1 0 = nI (aN (ar 1))) (h8 : aN (ar 1) ≤ 8) {d : Nat} (hd : ar 1 10 = nI d) (h6 : d ≤ 6) : F_X5_printsDraft M f t c (mW w M fl ar) = some (mOut w M fl (up ar 8 (cp 7 (fun k => ar 1 (10 + k)) (ar 8))) (sPrintD d f t c (ar 1))) := by
  obtain ⟨zk0, zk1, zk2, zk3, zk4, zk5, zk6, zk7, zk8, zl1, zl2, zl3, zl4, zl5, zl6, zl7, zl8, zr1, zr2, zr3, zr4, zr5, zr6, zr7, zr8⟩ := id hB
  unfold F_X5_printsDraft
  have n18 : ¬ (1 : Nat) = 8 := by decide
  refine fLoop_bind (r := mW w M fl (up ar 8 (cp 7 (fun k => ar 1 (10 + k)) (ar 8)))) (fun k => (nI k, mW w M fl (up ar 8 (cp k (fun k => ar 1 (10 + k)) (ar 8))))) 7 ?_ (fun k hk => ?_) ?_ ?_
  · show (_, _) = (_, _)
    rw [cp_0, up_self]
    rfl
  · have c1 : ¬ (7 : Int32) ≤ nI k := nI_ge (b := 7) hk (by decide)
    have e1 : 10 + nI k = nI (10 + k) := nI_add 10 k
    repeat (first
      | with_reducible refine (fg_t (by first | with_reducible assumption | (simp only [mW_k, mW_l, mW_R, sI_k, sI_l, gR_I, mW_sf, mW_f, show Int32.toNatClampNeg 0 = 0 from rfl, show Int32.toNatClampNeg 1 = 1 from rfl, show Int32.toNatClampNeg 2 = 2 from rfl, show Int32.toNatClampNeg 3 = 3 from rfl, show Int32.toNatClampNeg 4 = 4 from rfl, show Int32.toNatClampNeg 5 = 5 from rfl, show Int32.toNatClampNeg 6 = 6 from rfl, show Int32.toNatClampNeg 10 = 10 from rfl, mW_a1, mW_a2, mW_a3, mW_a4, mW_a5, mW_a6, mW_a7, mW_a8, mW_s1, mW_s2, mW_s3, mW_s4, mW_s5, mW_s6, mW_s7, mW_s8, zr1, zr2, zr3, zr4, zr5, zr6, zr7, zr8, up_s, zk0, zk1, zk2, zk3, zk4, zk5, zk6, zk7, zk8, zl1, zl2, zl3, zl4, zl5, zl6, zl7, zl8]; done) | (simp only [mW_k, mW_l, mW_R, sI_k, sI_l, gR_I, mW_sf, mW_f, show Int32.toNatClampNeg 0 = 0 from rfl, show Int32.toNatClampNeg 1 = 1 from rfl, show Int32.toNatClampNeg 2 = 2 from rfl, show Int32.toNatClampNeg 3 = 3 from rfl, show Int32.toNatClampNeg 4 = 4 from rfl, show Int32.toNatClampNeg 5 = 5 from rfl, show Int32.toNatClampNeg 6 = 6 from rfl, show Int32.toNatClampNeg 10 = 10 from rfl, mW_a1, mW_a2, mW_a3, mW_a4, mW_a5, mW_a6, mW_a7, mW_a8, mW_s1, mW_s2, mW_s3, mW_s4, mW_s5, mW_s6, mW_s7, mW_s8, zr1, zr2, zr3, zr4, zr5, zr6, zr7, zr8, up_s, zk0, zk1, zk2, zk3, zk4, zk5, zk6, zk7, zk8, zl1, zl2, zl3, zl4, zl5, zl6, zl7, zl8]; first | with_reducible assumption | decide | (with_reducible apply ix_ok rfl <;> first | omega | decide) | (rw [e1]; with_reducible apply ix_ok rfl <;> first | omega | decide)))).trans ?_
      | with_reducible refine obg (by first | with_reducible assumption | (simp only [mW_k, mW_l, mW_R, sI_k, sI_l, gR_I, mW_sf, mW_f, show Int32.toNatClampNeg 0 = 0 from rfl, show Int32.toNatClampNeg 1 = 1 from rfl, show Int32.toNatClampNeg 2 = 2 from rfl, show Int32.toNatClampNeg 3 = 3 from rfl, show Int32.toNatClampNeg 4 = 4 from rfl, show Int32.toNatClampNeg 5 = 5 from rfl, show Int32.toNatClampNeg 6 = 6 from rfl, show Int32.toNatClampNeg 10 = 10 from rfl, mW_a1, mW_a2, mW_a3, mW_a4, mW_a5, mW_a6, mW_a7, mW_a8, mW_s1, mW_s2, mW_s3, mW_s4, mW_s5, mW_s6, mW_s7, mW_s8, zr1, zr2, zr3, zr4, zr5, zr6, zr7, zr8, up_s, zk0, zk1, zk2, zk3, zk4, zk5, zk6, zk7, zk8, zl1, zl2, zl3, zl4, zl5, zl6, zl7, zl8]; done) | (simp only [mW_k, mW_l, mW_R, sI_k, sI_l, gR_I, mW_sf, mW_f, show Int32.toNatClampNeg 0 = 0 from rfl, show Int32.toNatClampNeg 1 = 1 from rfl, show Int32.toNatClampNeg 2 = 2 from rfl, show Int32.toNatClampNeg 3 = 3 from rfl, show Int32.toNatClampNeg 4 = 4 from rfl, show Int32.toNatClampNeg 5 = 5 from rfl, show Int32.toNatClampNeg 6 = 6 from rfl, show Int32.toNatClampNeg 10 = 10 from rfl, mW_a1, mW_a2, mW_a3, mW_a4, mW_a5, mW_a6, mW_a7, mW_a8, mW_s1, mW_s2, mW_s3, mW_s4, mW_s5, mW_s6, mW_s7, mW_s8, zr1, zr2, zr3, zr4, zr5, zr6, zr7, zr8, up_s, zk0, zk1, zk2, zk3, zk4, zk5, zk6, zk7, zk8, zl1, zl2, zl3, zl4, zl5, zl6, zl7, zl8]; first | with_reducible assumption | decide | (with_reducible apply ix_ok rfl <;> first | omega | decide) | (rw [e1]; with_reducible apply ix_ok rfl <;> first | omega | decide))) ?_
      | with_reducible refine obp (by first | with_reducible assumption | (simp only [mW_k, mW_l, mW_R, sI_k, sI_l, gR_I, mW_sf, mW_f, show Int32.toNatClampNeg 0 = 0 from rfl, show Int32.toNatClampNeg 1 = 1 from rfl, show Int32.toNatClampNeg 2 = 2 from rfl, show Int32.toNatClampNeg 3 = 3 from rfl, show Int32.toNatClampNeg 4 = 4 from rfl, show Int32.toNatClampNeg 5 = 5 from rfl, show Int32.toNatClampNeg 6 = 6 from rfl, show Int32.toNatClampNeg 10 = 10 from rfl, mW_a1, mW_a2, mW_a3, mW_a4, mW_a5, mW_a6, mW_a7, mW_a8, mW_s1, mW_s2, mW_s3, mW_s4, mW_s5, mW_s6, mW_s7, mW_s8, zr1, zr2, zr3, zr4, zr5, zr6, zr7, zr8, up_s]; with_reducible assumption)) ?_
      | with_reducible refine obn (by first | with_reducible assumption | (simp only [mW_k, mW_l, mW_R, sI_k, sI_l, gR_I, mW_sf, mW_f, show Int32.toNatClampNeg 0 = 0 from rfl, show Int32.toNatClampNeg 1 = 1 from rfl, show Int32.toNatClampNeg 2 = 2 from rfl, show Int32.toNatClampNeg 3 = 3 from rfl, show Int32.toNatClampNeg 4 = 4 from rfl, show Int32.toNatClampNeg 5 = 5 from rfl, show Int32.toNatClampNeg 6 = 6 from rfl, show Int32.toNatClampNeg 10 = 10 from rfl, mW_a1, mW_a2, mW_a3, mW_a4, mW_a5, mW_a6, mW_a7, mW_a8, mW_s1, mW_s2, mW_s3, mW_s4, mW_s5, mW_s6, mW_s7, mW_s8, zr1, zr2, zr3, zr4, zr5, zr6, zr7, zr8, up_s]; with_reducible assumption)) ?_
      | with_reducible refine obb ?_
      | with_reducible refine ob (by first | with_reducible exact rfl | (simp only [mW_k, mW_l, mW_R, sI_k, sI_l, gR_I, mW_sf, mW_f, show Int32.toNatClampNeg 0 = 0 from rfl, show Int32.toNatClampNeg 1 = 1 from rfl, show Int32.toNatClampNeg 2 = 2 from rfl, show Int32.toNatClampNeg 3 = 3 from rfl, show Int32.toNatClampNeg 4 = 4 from rfl, show Int32.toNatClampNeg 5 = 5 from rfl, show Int32.toNatClampNeg 6 = 6 from rfl, show Int32.toNatClampNeg 10 = 10 from rfl, mW_a1, mW_a2, mW_a3, mW_a4, mW_a5, mW_a6, mW_a7, mW_a8, mW_s1, mW_s2, mW_s3, mW_s4, mW_s5, mW_s6, mW_s7, mW_s8, zr1, zr2, zr3, zr4, zr5, zr6, zr7, zr8, up_s]; first | with_reducible exact rfl)) ?_
      | with_reducible refine (if_pos (by first | with_reducible assumption | (simp only [mW_k, mW_l, mW_R, sI_k, sI_l, gR_I, mW_sf, mW_f, show Int32.toNatClampNeg 0 = 0 from rfl, show Int32.toNatClampNeg 1 = 1 from rfl, show Int32.toNatClampNeg 2 = 2 from rfl, show Int32.toNatClampNeg 3 = 3 from rfl, show Int32.toNatClampNeg 4 = 4 from rfl, show Int32.toNatClampNeg 5 = 5 from rfl, show Int32.toNatClampNeg 6 = 6 from rfl, show Int32.toNatClampNeg 10 = 10 from rfl, mW_a1, mW_a2, mW_a3, mW_a4, mW_a5, mW_a6, mW_a7, mW_a8, mW_s1, mW_s2, mW_s3, mW_s4, mW_s5, mW_s6, mW_s7, mW_s8, zr1, zr2, zr3, zr4, zr5, zr6, zr7, zr8, up_s]; with_reducible assumption))).trans ?_
      | with_reducible refine (if_neg (by first | with_reducible assumption | (simp only [mW_k, mW_l, mW_R, sI_k, sI_l, gR_I, mW_sf, mW_f, show Int32.toNatClampNeg 0 = 0 from rfl, show Int32.toNatClampNeg 1 = 1 from rfl, show Int32.toNatClampNeg 2 = 2 from rfl, show Int32.toNatClampNeg 3 = 3 from rfl, show Int32.toNatClampNeg 4 = 4 from rfl, show Int32.toNatClampNeg 5 = 5 from rfl, show Int32.toNatClampNeg 6 = 6 from rfl, show Int32.toNatClampNeg 10 = 10 from rfl, mW_a1, mW_a2, mW_a3, mW_a4, mW_a5, mW_a6, mW_a7, mW_a8, mW_s1, mW_s2, mW_s3, mW_s4, mW_s5, mW_s6, mW_s7, mW_s8, zr1, zr2, zr3, zr4, zr5, zr6, zr7, zr8, up_s]; with_reducible assumption))).trans ?_)
    simp only [mW_k, mW_l, mW_R, sI_k, sI_l, gR_I, mW_sf, mW_f, show Int32.toNatClampNeg 0 = 0 from rfl, show Int32.toNatClampNeg 1 = 1 from rfl, show Int32.toNatClampNeg 2 = 2 from rfl, show Int32.toNatClampNeg 3 = 3 from rfl, show Int32.toNatClampNeg 4 = 4 from rfl, show Int32.toNatClampNeg 5 = 5 from rfl, show Int32.toNatClampNeg 6 = 6 from rfl, show Int32.toNatClampNeg 10 = 10 from rfl, mW_a1, mW_a2, mW_a3, mW_a4, mW_a5, mW_a6, mW_a7, mW_a8, mW_s1, mW_s2, mW_s3, mW_s4, mW_s5, mW_s6, mW_s7, mW_s8, zr1, zr2, zr3, zr4, zr5, zr6, zr7, zr8, up_s, e1, nI_1, nI_clamp (show k < 2 ^ 31 by omega), nI_clamp (show 10 + k < 2 ^ 31 by omega), up_n n18, up_up]
    rw [cp_s k (fun k => ar 1 (10 + k))]
  · have c1 : (7 : Int32) ≤ nI 7 := by decide
    simp only [if_pos c1]
  · refine (fg_t (show (mW w M fl ar).1 M = 6 from zk0)).trans ?_
    have hpr := m_prints (fl := fl) (ar := up ar 8 (cp 7 (fun k => ar 1 (10 + k)) (ar 8))) hB f t c (by rw [up_n n18]; exact hn) (by rw [up_n n18]; exact h8) (g := d) (by rw [up_s, cp_l (by decide)]; exact hd) h6
    rw [up_n n18, up_s] at hpr
    have hco : sPrint d f t c (cp 7 (fun k => ar 1 (10 + k)) (ar 8)) (ar 1) = sPrint d f t c (fun k => ar 1 (10 + k)) (ar 1) := sPrint_congr (fun i h1 h2 => cp_l (show i < 7 by omega)) (cp_l (show 0 < 7 by decide))
    rw [hco] at hpr
    refine ob hpr ?_
    unfold sPrintD
    generalize sPrint d f t c (fun k => ar 1 (10 + k)) (ar 1) = r
    obtain ⟨x, y, B⟩ := r
    by_cases h0 : x = 0
    · subst h0
      refine (if_pos rfl).trans ?_
      refine fLoop_bind (r := mW w M (up fl 518 y) (up (up ar 8 (cp 7 (fun k => ar 1 (10 + k)) (ar 8))) 1 (zrA 10 7 B))) (fun k => (nI k, mW w M (up fl 518 y) (up (up ar 8 (cp 7 (fun k => ar 1 (10 + k)) (ar 8))) 1 (zrA 10 k B)))) 7 ?_ (fun k hk => ?_) ?_ ?_
      · show (_, _) = (_, _)
        rw [zrA_0]
        rfl
      · have c1 : ¬ (7 : Int32) ≤ nI k := nI_ge (b := 7) hk (by decide)
        have e1 : 10 + nI k = nI (10 + k) := nI_add 10 k
        repeat (first
          | with_reducible refine (fg_t (by first | with_reducible assumption | (simp only [mW_k, mW_l, mW_R, sI_k, sI_l, gR_I, mW_sf, mW_f, show Int32.toNatClampNeg 0 = 0 from rfl, show Int32.toNatClampNeg 1 = 1 from rfl, show Int32.toNatClampNeg 2 = 2 from rfl, show Int32.toNatClampNeg 3 = 3 from rfl, show Int32.toNatClampNeg 4 = 4 from rfl, show Int32.toNatClampNeg 5 = 5 from rfl, show Int32.toNatClampNeg 6 = 6 from rfl, show Int32.toNatClampNeg 10 = 10 from rfl, mW_a1, mW_a2, mW_a3, mW_a4, mW_a5, mW_a6, mW_a7, mW_a8, mW_s1, mW_s2, mW_s3, mW_s4, mW_s5, mW_s6, mW_s7, mW_s8, zr1, zr2, zr3, zr4, zr5, zr6, zr7, zr8, up_s, zk0, zk1, zk2, zk3, zk4, zk5, zk6, zk7, zk8, zl1, zl2, zl3, zl4, zl5, zl6, zl7, zl8]; done) | (simp only [mW_k, mW_l, mW_R, sI_k, sI_l, gR_I, mW_sf, mW_f, show Int32.toNatClampNeg 0 = 0 from rfl, show Int32.toNatClampNeg 1 = 1 from rfl, show Int32.toNatClampNeg 2 = 2 from rfl, show Int32.toNatClampNeg 3 = 3 from rfl, show Int32.toNatClampNeg 4 = 4 from rfl, show Int32.toNatClampNeg 5 = 5 from rfl, show Int32.toNatClampNeg 6 = 6 from rfl, show Int32.toNatClampNeg 10 = 10 from rfl, mW_a1, mW_a2, mW_a3, mW_a4, mW_a5, mW_a6, mW_a7, mW_a8, mW_s1, mW_s2, mW_s3, mW_s4, mW_s5, mW_s6, mW_s7, mW_s8, zr1, zr2, zr3, zr4, zr5, zr6, zr7, zr8, up_s, zk0, zk1, zk2, zk3, zk4, zk5, zk6, zk7, zk8, zl1, zl2, zl3, zl4, zl5, zl6, zl7, zl8]; first | with_reducible assumption | decide | (with_reducible apply ix_ok rfl <;> first | omega | decide) | (rw [e1]; with_reducible apply ix_ok rfl <;> first | omega | decide)))).trans ?_
          | with_reducible refine obg (by first | with_reducible assumption | (simp only [mW_k, mW_l, mW_R, sI_k, sI_l, gR_I, mW_sf, mW_f, show Int32.toNatClampNeg 0 = 0 from rfl, show Int32.toNatClampNeg 1 = 1 from rfl, show Int32.toNatClampNeg 2 = 2 from rfl, show Int32.toNatClampNeg 3 = 3 from rfl, show Int32.toNatClampNeg 4 = 4 from rfl, show Int32.toNatClampNeg 5 = 5 from rfl, show Int32.toNatClampNeg 6 = 6 from rfl, show Int32.toNatClampNeg 10 = 10 from rfl, mW_a1, mW_a2, mW_a3, mW_a4, mW_a5, mW_a6, mW_a7, mW_a8, mW_s1, mW_s2, mW_s3, mW_s4, mW_s5, mW_s6, mW_s7, mW_s8, zr1, zr2, zr3, zr4, zr5, zr6, zr7, zr8, up_s, zk0, zk1, zk2, zk3, zk4, zk5, zk6, zk7, zk8, zl1, zl2, zl3, zl4, zl5, zl6, zl7, zl8]; done) | (simp only [mW_k, mW_l, mW_R, sI_k, sI_l, gR_I, mW_sf, mW_f, show Int32.toNatClampNeg 0 = 0 from rfl, show Int32.toNatClampNeg 1 = 1 from rfl, show Int32.toNatClampNeg 2 = 2 from rfl, show Int32.toNatClampNeg 3 = 3 from rfl, show Int32.toNatClampNeg 4 = 4 from rfl, show Int32.toNatClampNeg 5 = 5 from rfl, show Int32.toNatClampNeg 6 = 6 from rfl, show Int32.toNatClampNeg 10 = 10 from rfl, mW_a1, mW_a2, mW_a3, mW_a4, mW_a5, mW_a6, mW_a7, mW_a8, mW_s1, mW_s2, mW_s3, mW_s4, mW_s5, mW_s6, mW_s7, mW_s8, zr1, zr2, zr3, zr4, zr5, zr6, zr7, zr8, up_s, zk0, zk1, zk2, zk3, zk4, zk5, zk6, zk7, zk8, zl1, zl2, zl3, zl4, zl5, zl6, zl7, zl8]; first | with_reducible assumption | decide | (with_reducible apply ix_ok rfl <;> first | omega | decide) | (rw [e1]; with_reducible apply ix_ok rfl <;> first | omega | decide))) ?_
          | with_reducible refine obp (by first | with_reducible assumption | (simp only [mW_k, mW_l, mW_R, sI_k, sI_l, gR_I, mW_sf, mW_f, show Int32.toNatClampNeg 0 = 0 from rfl, show Int32.toNatClampNeg 1 = 1 from rfl, show Int32.toNatClampNeg 2 = 2 from rfl, show Int32.toNatClampNeg 3 = 3 from rfl, show Int32.toNatClampNeg 4 = 4 from rfl, show Int32.toNatClampNeg 5 = 5 from rfl, show Int32.toNatClampNeg 6 = 6 from rfl, show Int32.toNatClampNeg 10 = 10 from rfl, mW_a1, mW_a2, mW_a3, mW_a4, mW_a5, mW_a6, mW_a7, mW_a8, mW_s1, mW_s2, mW_s3, mW_s4, mW_s5, mW_s6, mW_s7, mW_s8, zr1, zr2, zr3, zr4, zr5, zr6, zr7, zr8, up_s]; with_reducible assumption)) ?_
          | with_reducible refine obn (by first | with_reducible assumption | (simp only [mW_k, mW_l, mW_R, sI_k, sI_l, gR_I, mW_sf, mW_f, show Int32.toNatClampNeg 0 = 0 from rfl, show Int32.toNatClampNeg 1 = 1 from rfl, show Int32.toNatClampNeg 2 = 2 from rfl, show Int32.toNatClampNeg 3 = 3 from rfl, show Int32.toNatClampNeg 4 = 4 from rfl, show Int32.toNatClampNeg 5 = 5 from rfl, show Int32.toNatClampNeg 6 = 6 from rfl, show Int32.toNatClampNeg 10 = 10 from rfl, mW_a1, mW_a2, mW_a3, mW_a4, mW_a5, mW_a6, mW_a7, mW_a8, mW_s1, mW_s2, mW_s3, mW_s4, mW_s5, mW_s6, mW_s7, mW_s8, zr1, zr2, zr3, zr4, zr5, zr6, zr7, zr8, up_s]; with_reducible assumption)) ?_
          | with_reducible refine obb ?_
          | with_reducible refine ob (by first | with_reducible exact rfl | (simp only [mW_k, mW_l, mW_R, sI_k, sI_l, gR_I, mW_sf, mW_f, show Int32.toNatClampNeg 0 = 0 from rfl, show Int32.toNatClampNeg 1 = 1 from rfl, show Int32.toNatClampNeg 2 = 2 from rfl, show Int32.toNatClampNeg 3 = 3 from rfl, show Int32.toNatClampNeg 4 = 4 from rfl, show Int32.toNatClampNeg 5 = 5 from rfl, show Int32.toNatClampNeg 6 = 6 from rfl, show Int32.toNatClampNeg 10 = 10 from rfl, mW_a1, mW_a2, mW_a3, mW_a4, mW_a5, mW_a6, mW_a7, mW_a8, mW_s1, mW_s2, mW_s3, mW_s4, mW_s5, mW_s6, mW_s7, mW_s8, zr1, zr2, zr3, zr4, zr5, zr6, zr7, zr8, up_s]; first | with_reducible exact rfl)) ?_
          | with_reducible refine (if_pos (by first | with_reducible assumption | (simp only [mW_k, mW_l, mW_R, sI_k, sI_l, gR_I, mW_sf, mW_f, show Int32.toNatClampNeg 0 = 0 from rfl, show Int32.toNatClampNeg 1 = 1 from rfl, show Int32.toNatClampNeg 2 = 2 from rfl, show Int32.toNatClampNeg 3 = 3 from rfl, show Int32.toNatClampNeg 4 = 4 from rfl, show Int32.toNatClampNeg 5 = 5 from rfl, show Int32.toNatClampNeg 6 = 6 from rfl, show Int32.toNatClampNeg 10 = 10 from rfl, mW_a1, mW_a2, mW_a3, mW_a4, mW_a5, mW_a6, mW_a7, mW_a8, mW_s1, mW_s2, mW_s3, mW_s4, mW_s5, mW_s6, mW_s7, mW_s8, zr1, zr2, zr3, zr4, zr5, zr6, zr7, zr8, up_s]; with_reducible assumption))).trans ?_
          | with_reducible refine (if_neg (by first | with_reducible assumption | (simp only [mW_k, mW_l, mW_R, sI_k, sI_l, gR_I, mW_sf, mW_f, show Int32.toNatClampNeg 0 = 0 from rfl, show Int32.toNatClampNeg 1 = 1 from rfl, show Int32.toNatClampNeg 2 = 2 from rfl, show Int32.toNatClampNeg 3 = 3 from rfl, show Int32.toNatClampNeg 4 = 4 from rfl, show Int32.toNatClampNeg 5 = 5 from rfl, show Int32.toNatClampNeg 6 = 6 from rfl, show Int32.toNatClampNeg 10 = 10 from rfl, mW_a1, mW_a2, mW_a3, mW_a4, mW_a5, mW_a6, mW_a7, mW_a8, mW_s1, mW_s2, mW_s3, mW_s4, mW_s5, mW_s6, mW_s7, mW_s8, zr1, zr2, zr3, zr4, zr5, zr6, zr7, zr8, up_s]; with_reducible assumption))).trans ?_)
        simp only [mW_k, mW_l, mW_R, sI_k, sI_l, gR_I, mW_sf, mW_f, show Int32.toNatClampNeg 0 = 0 from rfl, show Int32.toNatClampNeg 1 = 1 from rfl, show Int32.toNatClampNeg 2 = 2 from rfl, show Int32.toNatClampNeg 3 = 3 from rfl, show Int32.toNatClampNeg 4 = 4 from rfl, show Int32.toNatClampNeg 5 = 5 from rfl, show Int32.toNatClampNeg 6 = 6 from rfl, show Int32.toNatClampNeg 10 = 10 from rfl, mW_a1, mW_a2, mW_a3, mW_a4, mW_a5, mW_a6, mW_a7, mW_a8, mW_s1, mW_s2, mW_s3, mW_s4, mW_s5, mW_s6, mW_s7, mW_s8, zr1, zr2, zr3, zr4, zr5, zr6, zr7, zr8, up_s, e1, nI_1, nI_clamp (show 10 + k < 2 ^ 31 by omega), up_up, zrA_s]
      · have c1 : (7 : Int32) ≤ nI 7 := by decide
        simp only [if_pos c1]
      · simp only [if_true]
        rfl
    · refine (if_neg h0).trans ?_
      simp only [if_neg h0]
      try rfl
theorem m_print (hB : MB w M) (f t c : Int32) (hn : ar 1 0 = nI (aN (ar 1))) (h8 : aN (ar 1) ≤ 8) {d : Nat} (hd : ar 1 10 = nI d) (h6 : d ≤ 6) {n : Nat} (hk : fl 505 = nI n) (h8n : n ≤ 8) : F_X5_print M f t c (mW w M fl ar) = some (eA 3 (sPrintD d f t c (ar 1)), mW w M (eF (rF fl) 3 n (sPrintD d f t c (ar 1))) (up (up (up (rA ar) 8 (cp 7 (fun k => ar 1 (10 + k)) (ar 8))) 1 (sPrintD d f t c (ar 1)).2.2) 4 (eH n (cp 177 (ar 1) (ar 2)) (ar 4) (sPrintD d f t c (ar 1))))) := by
  obtain ⟨zk0, zk1, zk2, zk3, zk4, zk5, zk6, zk7, zk8, zl1, zl2, zl3, zl4, zl5, zl6, zl7, zl8, zr1, zr2, zr3, zr4, zr5, zr6, zr7, zr8⟩ := id hB
  unfold F_X5_print
  refine (fg_t (show (mW w M fl ar).1 M = 6 from zk0)).trans ?_
  refine ob (m_remembers hB) ?_
  have h8' : rA ar 8 = ar 8 := up_n (by decide)
  have hpd := m_printsDraft (fl := rF fl) (ar := rA ar) hB f t c (by rw [rA_1]; exact hn) (by rw [rA_1]; exact h8) (d := d) (by rw [rA_1]; exact hd) h6
  rw [rA_1, h8'] at hpd
  refine (m_pub (n := n) hB 3 hpd (by rw [rF_n (by decide)]; exact hk) h8n).trans ?_
  rw [up_n (show ¬ (2 : Nat) = 8 by decide), up_n (show ¬ (4 : Nat) = 8 by decide), rA_2, rA_4]
end MG
