/-- a ticket's text -/
def tN (v : Nat) : List Int32 := ((((((([] ++ fByt.getD 20 []) ++ fByt.getD (14 + v % 6) []) ++ fByt.getD 21 []) ++ [nI (48 + v % 5)]) ++ fByt.getD 22 []) ++ [nI (48 + (v + 1) % 5)]) ++ fByt.getD 23 []) ++ [nI (48 + (1 + v % 3))]
def tI (v t g u : Nat) : List Int32 := if v % 4 = 0 then ((([] ++ fByt.getD 25 []) ++ [nI (48 + t)]) ++ fByt.getD 26 []) ++ [nI (48 + u)] else if v % 4 = 1 then ((([] ++ fByt.getD 27 []) ++ [nI (48 + v % 3)]) ++ fByt.getD 28 []) ++ [nI (48 + v % 5)] else if v % 4 = 2 then (([] ++ fByt.getD 29 []) ++ [nI (48 + t)]) ++ (if g = 0 then fByt.getD 31 [] else fByt.getD 30 []) else fByt.getD 32 []
def tD (v t g u : Nat) : List Int32 := ([] ++ fByt.getD 24 []) ++ tI v t g u
theorem wd_len : ∀ j, j < 6 → (fByt.getD (14 + j) []).length ≤ 6 := by decide
theorem tN_b {v : Nat} : tB (tN v) := by
  have h5 : v % 5 < 5 := Nat.mod_lt _ (by decide)
  have h6 : (v + 1) % 5 < 5 := Nat.mod_lt _ (by decide)
  have h3 : v % 3 < 3 := Nat.mod_lt _ (by decide)
  have hw : v % 6 < 6 := Nat.mod_lt _ (by decide)
  exact tB_app (tB_app (tB_app (tB_app (tB_app (tB_app (tB_app (tB_app (fun _ h => absurd h List.not_mem_nil) (tB_c 20 (by decide))) (tB_c (14 + v % 6) (by omega))) (tB_c 21 (by decide))) (tB_dig (by omega))) (tB_c 22 (by decide))) (tB_dig (by omega))) (tB_c 23 (by decide))) (tB_dig (by omega))
theorem tN_l {v : Nat} : (tN v).length ≤ 13 := by
  have hw := wd_len (v % 6) (Nat.mod_lt _ (by decide))
  have l20 : (fByt.getD 20 []).length = 1 := rfl
  have l21 : (fByt.getD 21 []).length = 1 := rfl
  have l22 : (fByt.getD 22 []).length = 1 := rfl
  have l23 : (fByt.getD 23 []).length = 1 := rfl
  unfold tN
  simp only [List.length_append, List.length_cons, List.length_nil, l20, l21, l22, l23]
  omega
theorem tI_b {v t g u : Nat} (ht : t < 10) (hu : u < 10) : tB (tI v t g u) := by
  have h5 : v % 5 < 5 := Nat.mod_lt _ (by decide)
  have h3 : v % 3 < 3 := Nat.mod_lt _ (by decide)
  unfold tI
  by_cases c : v % 4 = 0
  · rw [if_pos c]
    exact tB_app (tB_app (tB_app (tB_app (fun _ h => absurd h List.not_mem_nil) (tB_c 25 (by decide))) (tB_dig ht)) (tB_c 26 (by decide))) (tB_dig hu)
  · rw [if_neg c]
    by_cases c1 : v % 4 = 1
    · rw [if_pos c1]
      exact tB_app (tB_app (tB_app (tB_app (fun _ h => absurd h List.not_mem_nil) (tB_c 27 (by decide))) (tB_dig (by omega))) (tB_c 28 (by decide))) (tB_dig (by omega))
    · rw [if_neg c1]
      by_cases c2 : v % 4 = 2
      · rw [if_pos c2]
        refine tB_app (tB_app (tB_app (fun _ h => absurd h List.not_mem_nil) (tB_c 29 (by decide))) (tB_dig ht)) ?_
        by_cases c3 : g = 0
        · rw [if_pos c3]
          exact tB_c 31 (by decide)
        · rw [if_neg c3]
          exact tB_c 30 (by decide)
      · rw [if_neg c2]
        exact tB_c 32 (by decide)
theorem tI_l {v t g u : Nat} : (tI v t g u).length ≤ 5 := by
  have l25 : (fByt.getD 25 []).length = 1 := rfl
  have l26 : (fByt.getD 26 []).length = 2 := rfl
  have l27 : (fByt.getD 27 []).length = 1 := rfl
  have l28 : (fByt.getD 28 []).length = 1 := rfl
  have l29 : (fByt.getD 29 []).length = 1 := rfl
  have l30 : (fByt.getD 30 []).length = 1 := rfl
  have l31 : (fByt.getD 31 []).length = 1 := rfl
  have l32 : (fByt.getD 32 []).length = 0 := rfl
  unfold tI
  by_cases c : v % 4 = 0
  · rw [if_pos c]
    simp only [List.length_append, List.length_cons, List.length_nil, l25, l26]
    omega
  · rw [if_neg c]
    by_cases c1 : v % 4 = 1
    · rw [if_pos c1]
      simp only [List.length_append, List.length_cons, List.length_nil, l27, l28]
      omega
    · rw [if_neg c1]
      by_cases c2 : v % 4 = 2
      · rw [if_pos c2]
        by_cases c3 : g = 0
        · rw [if_pos c3]
          simp only [List.length_append, List.length_cons, List.length_nil, l29, l31]
          omega
        · rw [if_neg c3]
          simp only [List.length_append, List.length_cons, List.length_nil, l29, l30]
          omega
      · rw [if_neg c2]
        rw [l32]
        omega
section DOT
variable {X : FX} {l : Launch} {D : va_G} {cy : Nat → ClassId} {cells slots pc h b a : Nat} {w : FW} {E : gE} {L : List (Nat × Value)} {st : List Value} {t s : List Int32}
/-- what stays of the pins when a text of one's own is made beside an outer builder -/
theorem dr_sub {b1 a1 b2 a2 n1 n2 q v : Nat} (h1 : ¬ b1 = b2) (h2 : ¬ b1 = a2) (h3 : ¬ b1 = q) (h4 : ¬ b1 = v) (k1 : ¬ a1 = b2) (k2 : ¬ a1 = a2) (k3 : ¬ a1 = q) (k4 : ¬ a1 = v) (hab : ¬ b1 = a1) (hqv : ¬ q = v) : ∀ p z, sbE (stE cy q v s) cy b1 a1 n1 t p = some z → gUp (gUp (sbE (sbE E cy b1 a1 n1 t) cy b2 a2 n2 s) q (some (.inr (6, stV v)))) v (some (bYt cy s.length s)) p = some z := by
  intro p z hz
  by_cases e : p = a1
  · subst e
    rw [sbE_a] at hz
    rw [gUp_n k4, gUp_n k3, sbE_n k1 k2, sbE_a]
    exact hz
  · by_cases e2 : p = b1
    · subst e2
      rw [sbE_b e] at hz
      rw [gUp_n h4, gUp_n h3, sbE_n h1 h2, sbE_b e]
      exact hz
    · rw [sbE_n e2 e] at hz
      exact st_sub hqv p z hz
set_option maxHeartbeats 4000000 in
/-- the outer text is told and read -/
theorem d_tail (hC : fOK X cL_does 9 RL rmD l D cy) {sc : lScr} (hL : lOK X gE0 sc) {x q v : Nat} {r : Int32} {w' : FW} (hEn : fEnd X (some .int) (some (.int r)) w w' 25 182) (hV : sVw X w h (sbE E cy b a t.length t) (sbE gE0 cy b a t.length t) (some (q, v, s))) (hab : ¬ b = a) (hb : b < h) (ha : a < h) (hlen : t.length + s.length < 16) (ht : tB t) (hs : tB s) (hR : RDS x (t ++ s) w r w') (hcs : cells ≤ 7 ∧ slots ≤ 66) : gAt X cells slots 9 w h (sbE E cy b a t.length t) L [.ref q, .ref b, .ref x] 562 := by
  refine d_app hC hV hab (by omega) hs ⟨by omega, by omega⟩ (Nat.le_of_ble_eq_true rfl) dL_does_562 ?_
  have hl9 : (t ++ s).length < 16 := by rw [List.length_append]; exact hlen
  refine d_toS hC hab hb ha hl9 (tB_app ht hs) ⟨by omega, by omega⟩ (Nat.le_of_ble_eq_true rfl) dL_does_565 ?_
  exact d_end hC hL hEn (by omega) (st_sub (by omega)) (by omega) (tB_app ht hs) hR ⟨by omega, by omega⟩ dL_does_568 dL_does_571
end DOT
section DOF
variable {X : FX} {l : Launch} {D : va_G} {cy : Nat → ClassId} {sa n x ii kd t g u v h0 h1 : Nat} {f : Nat → Int32} {w w' : FW} {r : Int32}
set_option maxHeartbeats 4000000 in
theorem do_N (hC : fOK X cL_does 9 RL rmD l D cy) (hL : lOK X gE0 (some (sa, n, f))) (hEn : fEnd X (some .int) (some (.int r)) w w' 25 182) (h01 : h0 < h1) (hv : v < 1000) (ht9 : t < 10) (hu9 : u < 10) (hR : RDS x (tN v) w r w') : gAt X 1 6 9 w h1 (gUp gE0 h0 (some (wdA D cy 6))) [(8, .ref h0), (7, .int (nI v)), (0, .ref sa), (1, .int (nI ii)), (2, .int (nI kd)), (3, .ref x), (4, .int (nI t)), (5, .int (nI g)), (6, .int (nI u))] [] 184 := by
  have hw := wd_len (v % 6) (Nat.mod_lt _ (by decide))
  have l20 : (fByt.getD 20 []).length = 1 := rfl
  have l21 : (fByt.getD 21 []).length = 1 := rfl
  have l22 : (fByt.getD 22 []).length = 1 := rfl
  have l23 : (fByt.getD 23 []).length = 1 := rfl
  have l24 : (fByt.getD 24 []).length = 2 := rfl
  have l25 : (fByt.getD 25 []).length = 1 := rfl
  have l26 : (fByt.getD 26 []).length = 2 := rfl
  have l27 : (fByt.getD 27 []).length = 1 := rfl
  have l28 : (fByt.getD 28 []).length = 1 := rfl
  have l29 : (fByt.getD 29 []).length = 1 := rfl
  have l30 : (fByt.getD 30 []).length = 1 := rfl
  have l31 : (fByt.getD 31 []).length = 1 := rfl
  have m5 : v % 5 < 5 := Nat.mod_lt _ (by decide)
  have m3 : v % 3 < 3 := Nat.mod_lt _ (by decide)
  have m6 : v % 6 < 6 := Nat.mod_lt _ (by decide)
  have m51 : (v + 1) % 5 < 5 := Nat.mod_lt _ (by decide)
  refine g_aload_n hC dL_does_184 rfl 5 rfl ?_
  refine d_new hC ⟨by omega, by omega⟩ (Nat.le_of_ble_eq_true rfl) dL_does_185 dL_does_188 dL_does_189 ?_
  show gAt X 3 26 9 w (h1 + 2) (sbE (gUp gE0 h0 (some (wdA D cy 6))) cy (h1) (h1 + 1) ([] : List Int32).length ([] : List Int32)) [(8, .ref h0), (7, .int (nI v)), (0, .ref sa), (1, .int (nI ii)), (2, .int (nI kd)), (3, .ref x), (4, .int (nI t)), (5, .int (nI g)), (6, .int (nI u))] [.ref (h1), .ref x] 192
  refine g_ldcS hC 20 rfl dL_does_192 ?_
  refine d_apC (t := ([] : List Int32)) hC 20 (by omega) (by omega) (by simp only [List.length_append, List.length_cons, List.length_nil, l20, l21, l22, l23, l24, l25, l26, l27, l28, l29, l30, l31]; omega) ⟨by omega, by omega⟩ (Nat.le_of_ble_eq_true rfl) dL_does_194 ?_
  show gAt X 3 26 9 w (h1 + 2) (sbE (gUp gE0 h0 (some (wdA D cy 6))) cy (h1) (h1 + 1) (([] : List Int32) ++ fByt.getD 20 []).length (([] : List Int32) ++ fByt.getD 20 [])) [(8, .ref h0), (7, .int (nI v)), (0, .ref sa), (1, .int (nI ii)), (2, .int (nI kd)), (3, .ref x), (4, .int (nI t)), (5, .int (nI g)), (6, .int (nI u))] [.ref (h1), .ref x] 197
  refine g_aload hC dL_does_197 0 rfl ?_
  refine g_iload hC dL_does_199 1 rfl ?_
  refine g_bipush (v := (nI 6)) hC dL_does_201 (by decide) ?_
  refine g_irem hC dL_does_203 (by decide) ?_
  rw [frem_n (a := v) (d := 6) (by omega) (by decide) (by decide)]
  refine g_aaldS hC ((sbE_n (by omega) (by omega)).trans (gUp_s _ _ _)) m6 dL_does_204 ?_
  refine d_apC (t := (([] : List Int32) ++ fByt.getD 20 [])) hC (14 + v % 6) (by omega) (by omega) (by simp only [List.length_append, List.length_cons, List.length_nil, l20, l21, l22, l23, l24, l25, l26, l27, l28, l29, l30, l31]; omega) ⟨by omega, by omega⟩ (Nat.le_of_ble_eq_true rfl) dL_does_205 ?_
  show gAt X 3 26 9 w (h1 + 2) (sbE (gUp gE0 h0 (some (wdA D cy 6))) cy (h1) (h1 + 1) ((([] : List Int32) ++ fByt.getD 20 []) ++ fByt.getD (14 + v % 6) []).length ((([] : List Int32) ++ fByt.getD 20 []) ++ fByt.getD (14 + v % 6) [])) [(8, .ref h0), (7, .int (nI v)), (0, .ref sa), (1, .int (nI ii)), (2, .int (nI kd)), (3, .ref x), (4, .int (nI t)), (5, .int (nI g)), (6, .int (nI u))] [.ref (h1), .ref x] 208
  refine g_ldcS hC 21 rfl dL_does_208 ?_
  refine d_apC (t := ((([] : List Int32) ++ fByt.getD 20 []) ++ fByt.getD (14 + v % 6) [])) hC 21 (by omega) (by omega) (by simp only [List.length_append, List.length_cons, List.length_nil, l20, l21, l22, l23, l24, l25, l26, l27, l28, l29, l30, l31]; omega) ⟨by omega, by omega⟩ (Nat.le_of_ble_eq_true rfl) dL_does_210 ?_
  show gAt X 3 26 9 w (h1 + 2) (sbE (gUp gE0 h0 (some (wdA D cy 6))) cy (h1) (h1 + 1) (((([] : List Int32) ++ fByt.getD 20 []) ++ fByt.getD (14 + v % 6) []) ++ fByt.getD 21 []).length (((([] : List Int32) ++ fByt.getD 20 []) ++ fByt.getD (14 + v % 6) []) ++ fByt.getD 21 [])) [(8, .ref h0), (7, .int (nI v)), (0, .ref sa), (1, .int (nI ii)), (2, .int (nI kd)), (3, .ref x), (4, .int (nI t)), (5, .int (nI g)), (6, .int (nI u))] [.ref (h1), .ref x] 213
  refine g_iload hC dL_does_213 1 rfl ?_
  refine g_iconst (v := (nI 5)) hC dL_does_215 (by decide) ?_
  refine g_irem hC dL_does_216 (by decide) ?_
  rw [frem_n (a := v) (d := 5) (by omega) (by decide) (by decide)]
  refine d_apI (t := (((([] : List Int32) ++ fByt.getD 20 []) ++ fByt.getD (14 + v % 6) []) ++ fByt.getD 21 [])) (d := (v % 5)) hC (by omega) (by omega) (by simp only [List.length_append, List.length_cons, List.length_nil, l20, l21, l22, l23, l24, l25, l26, l27, l28, l29, l30, l31]; omega) ⟨by omega, by omega⟩ (Nat.le_of_ble_eq_true rfl) dL_does_217 ?_
  show gAt X 3 26 9 w (h1 + 2) (sbE (gUp gE0 h0 (some (wdA D cy 6))) cy (h1) (h1 + 1) ((((([] : List Int32) ++ fByt.getD 20 []) ++ fByt.getD (14 + v % 6) []) ++ fByt.getD 21 []) ++ [nI (48 + (v % 5))]).length ((((([] : List Int32) ++ fByt.getD 20 []) ++ fByt.getD (14 + v % 6) []) ++ fByt.getD 21 []) ++ [nI (48 + (v % 5))])) [(8, .ref h0), (7, .int (nI v)), (0, .ref sa), (1, .int (nI ii)), (2, .int (nI kd)), (3, .ref x), (4, .int (nI t)), (5, .int (nI g)), (6, .int (nI u))] [.ref (h1), .ref x] 220
  refine g_ldcS hC 22 rfl dL_does_220 ?_
  refine d_apC (t := ((((([] : List Int32) ++ fByt.getD 20 []) ++ fByt.getD (14 + v % 6) []) ++ fByt.getD 21 []) ++ [nI (48 + (v % 5))])) hC 22 (by omega) (by omega) (by simp only [List.length_append, List.length_cons, List.length_nil, l20, l21, l22, l23, l24, l25, l26, l27, l28, l29, l30, l31]; omega) ⟨by omega, by omega⟩ (Nat.le_of_ble_eq_true rfl) dL_does_222 ?_
  show gAt X 3 26 9 w (h1 + 2) (sbE (gUp gE0 h0 (some (wdA D cy 6))) cy (h1) (h1 + 1) (((((([] : List Int32) ++ fByt.getD 20 []) ++ fByt.getD (14 + v % 6) []) ++ fByt.getD 21 []) ++ [nI (48 + (v % 5))]) ++ fByt.getD 22 []).length (((((([] : List Int32) ++ fByt.getD 20 []) ++ fByt.getD (14 + v % 6) []) ++ fByt.getD 21 []) ++ [nI (48 + (v % 5))]) ++ fByt.getD 22 [])) [(8, .ref h0), (7, .int (nI v)), (0, .ref sa), (1, .int (nI ii)), (2, .int (nI kd)), (3, .ref x), (4, .int (nI t)), (5, .int (nI g)), (6, .int (nI u))] [.ref (h1), .ref x] 225
  refine g_iload hC dL_does_225 1 rfl ?_
  refine g_iconst (v := (nI 1)) hC dL_does_227 (by decide) ?_
  refine g_iadd hC dL_does_228 ?_
  rw [nI_add]
  refine g_iconst (v := (nI 5)) hC dL_does_229 (by decide) ?_
  refine g_irem hC dL_does_230 (by decide) ?_
  rw [frem_n (a := (v + 1)) (d := 5) (by omega) (by decide) (by decide)]
  refine d_apI (t := (((((([] : List Int32) ++ fByt.getD 20 []) ++ fByt.getD (14 + v % 6) []) ++ fByt.getD 21 []) ++ [nI (48 + (v % 5))]) ++ fByt.getD 22 [])) (d := ((v + 1) % 5)) hC (by omega) (by omega) (by simp only [List.length_append, List.length_cons, List.length_nil, l20, l21, l22, l23, l24, l25, l26, l27, l28, l29, l30, l31]; omega) ⟨by omega, by omega⟩ (Nat.le_of_ble_eq_true rfl) dL_does_231 ?_
  show gAt X 3 26 9 w (h1 + 2) (sbE (gUp gE0 h0 (some (wdA D cy 6))) cy (h1) (h1 + 1) ((((((([] : List Int32) ++ fByt.getD 20 []) ++ fByt.getD (14 + v % 6) []) ++ fByt.getD 21 []) ++ [nI (48 + (v % 5))]) ++ fByt.getD 22 []) ++ [nI (48 + ((v + 1) % 5))]).length ((((((([] : List Int32) ++ fByt.getD 20 []) ++ fByt.getD (14 + v % 6) []) ++ fByt.getD 21 []) ++ [nI (48 + (v % 5))]) ++ fByt.getD 22 []) ++ [nI (48 + ((v + 1) % 5))])) [(8, .ref h0), (7, .int (nI v)), (0, .ref sa), (1, .int (nI ii)), (2, .int (nI kd)), (3, .ref x), (4, .int (nI t)), (5, .int (nI g)), (6, .int (nI u))] [.ref (h1), .ref x] 234
  refine g_ldcS hC 23 rfl dL_does_234 ?_
  refine d_apC (t := ((((((([] : List Int32) ++ fByt.getD 20 []) ++ fByt.getD (14 + v % 6) []) ++ fByt.getD 21 []) ++ [nI (48 + (v % 5))]) ++ fByt.getD 22 []) ++ [nI (48 + ((v + 1) % 5))])) hC 23 (by omega) (by omega) (by simp only [List.length_append, List.length_cons, List.length_nil, l20, l21, l22, l23, l24, l25, l26, l27, l28, l29, l30, l31]; omega) ⟨by omega, by omega⟩ (Nat.le_of_ble_eq_true rfl) dL_does_236 ?_
  show gAt X 3 26 9 w (h1 + 2) (sbE (gUp gE0 h0 (some (wdA D cy 6))) cy (h1) (h1 + 1) (((((((([] : List Int32) ++ fByt.getD 20 []) ++ fByt.getD (14 + v % 6) []) ++ fByt.getD 21 []) ++ [nI (48 + (v % 5))]) ++ fByt.getD 22 []) ++ [nI (48 + ((v + 1) % 5))]) ++ fByt.getD 23 []).length (((((((([] : List Int32) ++ fByt.getD 20 []) ++ fByt.getD (14 + v % 6) []) ++ fByt.getD 21 []) ++ [nI (48 + (v % 5))]) ++ fByt.getD 22 []) ++ [nI (48 + ((v + 1) % 5))]) ++ fByt.getD 23 [])) [(8, .ref h0), (7, .int (nI v)), (0, .ref sa), (1, .int (nI ii)), (2, .int (nI kd)), (3, .ref x), (4, .int (nI t)), (5, .int (nI g)), (6, .int (nI u))] [.ref (h1), .ref x] 239
  refine g_iconst (v := (nI 1)) hC dL_does_239 (by decide) ?_
  refine g_iload hC dL_does_240 1 rfl ?_
  refine g_iconst (v := (nI 3)) hC dL_does_242 (by decide) ?_
  refine g_irem hC dL_does_243 (by decide) ?_
  rw [frem_n (a := v) (d := 3) (by omega) (by decide) (by decide)]
  refine g_iadd hC dL_does_244 ?_
  rw [nI_add]
  refine d_apI (t := (((((((([] : List Int32) ++ fByt.getD 20 []) ++ fByt.getD (14 + v % 6) []) ++ fByt.getD 21 []) ++ [nI (48 + (v % 5))]) ++ fByt.getD 22 []) ++ [nI (48 + ((v + 1) % 5))]) ++ fByt.getD 23 [])) (d := (1 + v % 3)) hC (by omega) (by omega) (by simp only [List.length_append, List.length_cons, List.length_nil, l20, l21, l22, l23, l24, l25, l26, l27, l28, l29, l30, l31]; omega) ⟨by omega, by omega⟩ (Nat.le_of_ble_eq_true rfl) dL_does_245 ?_
  show gAt X 3 26 9 w (h1 + 2) (sbE (gUp gE0 h0 (some (wdA D cy 6))) cy (h1) (h1 + 1) ((((((((([] : List Int32) ++ fByt.getD 20 []) ++ fByt.getD (14 + v % 6) []) ++ fByt.getD 21 []) ++ [nI (48 + (v % 5))]) ++ fByt.getD 22 []) ++ [nI (48 + ((v + 1) % 5))]) ++ fByt.getD 23 []) ++ [nI (48 + (1 + v % 3))]).length ((((((((([] : List Int32) ++ fByt.getD 20 []) ++ fByt.getD (14 + v % 6) []) ++ fByt.getD 21 []) ++ [nI (48 + (v % 5))]) ++ fByt.getD 22 []) ++ [nI (48 + ((v + 1) % 5))]) ++ fByt.getD 23 []) ++ [nI (48 + (1 + v % 3))])) [(8, .ref h0), (7, .int (nI v)), (0, .ref sa), (1, .int (nI ii)), (2, .int (nI kd)), (3, .ref x), (4, .int (nI t)), (5, .int (nI g)), (6, .int (nI u))] [.ref (h1), .ref x] 248
  have hl9 := tN_l (v := v)
  refine d_toS (t := tN v) hC (by omega) (by omega) (by omega) (by omega) tN_b ⟨by omega, by omega⟩ (Nat.le_of_ble_eq_true rfl) dL_does_248 ?_
  exact d_end hC hL hEn (by omega) (st_sub (by omega)) (by omega) tN_b hR ⟨by omega, by omega⟩ dL_does_251 dL_does_254
set_option maxHeartbeats 4000000 in
theorem do_D0 (hC : fOK X cL_does 9 RL rmD l D cy) (hL : lOK X gE0 (some (sa, n, f))) (hEn : fEnd X (some .int) (some (.int r)) w w' 25 182) (h01 : h0 < h1) (hv : v < 1000) (ht9 : t < 10) (hu9 : u < 10) (hv4 : v % 4 = 0) (hR : RDS x (tD v t g u) w r w') : gAt X 1 6 9 w h1 (gUp gE0 h0 (some (wdA D cy 6))) [(8, .ref h0), (7, .int (nI v)), (0, .ref sa), (1, .int (nI ii)), (2, .int (nI kd)), (3, .ref x), (4, .int (nI t)), (5, .int (nI g)), (6, .int (nI u))] [] 407 := by
  have hw := wd_len (v % 6) (Nat.mod_lt _ (by decide))
  have l20 : (fByt.getD 20 []).length = 1 := rfl
  have l21 : (fByt.getD 21 []).length = 1 := rfl
  have l22 : (fByt.getD 22 []).length = 1 := rfl
  have l23 : (fByt.getD 23 []).length = 1 := rfl
  have l24 : (fByt.getD 24 []).length = 2 := rfl
  have l25 : (fByt.getD 25 []).length = 1 := rfl
  have l26 : (fByt.getD 26 []).length = 2 := rfl
  have l27 : (fByt.getD 27 []).length = 1 := rfl
  have l28 : (fByt.getD 28 []).length = 1 := rfl
  have l29 : (fByt.getD 29 []).length = 1 := rfl
  have l30 : (fByt.getD 30 []).length = 1 := rfl
  have l31 : (fByt.getD 31 []).length = 1 := rfl
  have m5 : v % 5 < 5 := Nat.mod_lt _ (by decide)
  have m3 : v % 3 < 3 := Nat.mod_lt _ (by decide)
  have m6 : v % 6 < 6 := Nat.mod_lt _ (by decide)
  have m51 : (v + 1) % 5 < 5 := Nat.mod_lt _ (by decide)
  refine g_aload_n hC dL_does_407 rfl 5 rfl ?_
  refine d_new hC ⟨by omega, by omega⟩ (Nat.le_of_ble_eq_true rfl) dL_does_408 dL_does_411 dL_does_412 ?_
  show gAt X 3 26 9 w (h1 + 2) (sbE (gUp gE0 h0 (some (wdA D cy 6))) cy (h1) (h1 + 1) ([] : List Int32).length ([] : List Int32)) [(8, .ref h0), (7, .int (nI v)), (0, .ref sa), (1, .int (nI ii)), (2, .int (nI kd)), (3, .ref x), (4, .int (nI t)), (5, .int (nI g)), (6, .int (nI u))] [.ref (h1), .ref x] 415
  refine g_ldcW hC 24 rfl dL_does_415 ?_
  refine d_apC (t := ([] : List Int32)) hC 24 (by omega) (by omega) (by simp only [List.length_append, List.length_cons, List.length_nil, l20, l21, l22, l23, l24, l25, l26, l27, l28, l29, l30, l31]; omega) ⟨by omega, by omega⟩ (Nat.le_of_ble_eq_true rfl) dL_does_418 ?_
  show gAt X 3 26 9 w (h1 + 2) (sbE (gUp gE0 h0 (some (wdA D cy 6))) cy (h1) (h1 + 1) (([] : List Int32) ++ fByt.getD 24 []).length (([] : List Int32) ++ fByt.getD 24 [])) [(8, .ref h0), (7, .int (nI v)), (0, .ref sa), (1, .int (nI ii)), (2, .int (nI kd)), (3, .ref x), (4, .int (nI t)), (5, .int (nI g)), (6, .int (nI u))] [.ref (h1), .ref x] 421
  refine g_iload hC dL_does_421 1 rfl ?_
  refine g_iconst (v := (nI 4)) hC dL_does_423 (by decide) ?_
  refine g_irem hC dL_does_424 (by decide) ?_
  rw [frem_n (a := v) (d := 4) (by omega) (by decide) (by decide)]
  rw [hv4]
  refine g_if_ne hC 463 dL_does_425 (by decide) (fun h9 => absurd nI_0 h9) (fun _ => ?_)
  refine d_new hC ⟨by omega, by omega⟩ (Nat.le_of_ble_eq_true rfl) dL_does_428 dL_does_431 dL_does_432 ?_
  show gAt X 5 46 9 w (h1 + 2 + 2) (sbE (sbE (gUp gE0 h0 (some (wdA D cy 6))) cy (h1) (h1 + 1) (([] : List Int32) ++ fByt.getD 24 []).length (([] : List Int32) ++ fByt.getD 24 [])) cy (h1 + 2) (h1 + 2 + 1) ([] : List Int32).length ([] : List Int32)) [(8, .ref h0), (7, .int (nI v)), (0, .ref sa), (1, .int (nI ii)), (2, .int (nI kd)), (3, .ref x), (4, .int (nI t)), (5, .int (nI g)), (6, .int (nI u))] [.ref (h1 + 2), .ref (h1), .ref x] 435
  refine g_ldcW hC 25 rfl dL_does_435 ?_
  refine d_apC (t := ([] : List Int32)) hC 25 (by omega) (by omega) (by simp only [List.length_append, List.length_cons, List.length_nil, l20, l21, l22, l23, l24, l25, l26, l27, l28, l29, l30, l31]; omega) ⟨by omega, by omega⟩ (Nat.le_of_ble_eq_true rfl) dL_does_438 ?_
  show gAt X 5 46 9 w (h1 + 2 + 2) (sbE (sbE (gUp gE0 h0 (some (wdA D cy 6))) cy (h1) (h1 + 1) (([] : List Int32) ++ fByt.getD 24 []).length (([] : List Int32) ++ fByt.getD 24 [])) cy (h1 + 2) (h1 + 2 + 1) (([] : List Int32) ++ fByt.getD 25 []).length (([] : List Int32) ++ fByt.getD 25 [])) [(8, .ref h0), (7, .int (nI v)), (0, .ref sa), (1, .int (nI ii)), (2, .int (nI kd)), (3, .ref x), (4, .int (nI t)), (5, .int (nI g)), (6, .int (nI u))] [.ref (h1 + 2), .ref (h1), .ref x] 441
  refine g_iload hC dL_does_441 6 rfl ?_
  refine d_apI (t := (([] : List Int32) ++ fByt.getD 25 [])) (d := t) hC (by omega) (by omega) (by simp only [List.length_append, List.length_cons, List.length_nil, l20, l21, l22, l23, l24, l25, l26, l27, l28, l29, l30, l31]; omega) ⟨by omega, by omega⟩ (Nat.le_of_ble_eq_true rfl) dL_does_443 ?_
  show gAt X 5 46 9 w (h1 + 2 + 2) (sbE (sbE (gUp gE0 h0 (some (wdA D cy 6))) cy (h1) (h1 + 1) (([] : List Int32) ++ fByt.getD 24 []).length (([] : List Int32) ++ fByt.getD 24 [])) cy (h1 + 2) (h1 + 2 + 1) ((([] : List Int32) ++ fByt.getD 25 []) ++ [nI (48 + t)]).length ((([] : List Int32) ++ fByt.getD 25 []) ++ [nI (48 + t)])) [(8, .ref h0), (7, .int (nI v)), (0, .ref sa), (1, .int (nI ii)), (2, .int (nI kd)), (3, .ref x), (4, .int (nI t)), (5, .int (nI g)), (6, .int (nI u))] [.ref (h1 + 2), .ref (h1), .ref x] 446
  refine g_ldcW hC 26 rfl dL_does_446 ?_
  refine d_apC (t := ((([] : List Int32) ++ fByt.getD 25 []) ++ [nI (48 + t)])) hC 26 (by omega) (by omega) (by simp only [List.length_append, List.length_cons, List.length_nil, l20, l21, l22, l23, l24, l25, l26, l27, l28, l29, l30, l31]; omega) ⟨by omega, by omega⟩ (Nat.le_of_ble_eq_true rfl) dL_does_449 ?_
  show gAt X 5 46 9 w (h1 + 2 + 2) (sbE (sbE (gUp gE0 h0 (some (wdA D cy 6))) cy (h1) (h1 + 1) (([] : List Int32) ++ fByt.getD 24 []).length (([] : List Int32) ++ fByt.getD 24 [])) cy (h1 + 2) (h1 + 2 + 1) (((([] : List Int32) ++ fByt.getD 25 []) ++ [nI (48 + t)]) ++ fByt.getD 26 []).length (((([] : List Int32) ++ fByt.getD 25 []) ++ [nI (48 + t)]) ++ fByt.getD 26 [])) [(8, .ref h0), (7, .int (nI v)), (0, .ref sa), (1, .int (nI ii)), (2, .int (nI kd)), (3, .ref x), (4, .int (nI t)), (5, .int (nI g)), (6, .int (nI u))] [.ref (h1 + 2), .ref (h1), .ref x] 452
  refine g_iload hC dL_does_452 8 rfl ?_
  refine d_apI (t := (((([] : List Int32) ++ fByt.getD 25 []) ++ [nI (48 + t)]) ++ fByt.getD 26 [])) (d := u) hC (by omega) (by omega) (by simp only [List.length_append, List.length_cons, List.length_nil, l20, l21, l22, l23, l24, l25, l26, l27, l28, l29, l30, l31]; omega) ⟨by omega, by omega⟩ (Nat.le_of_ble_eq_true rfl) dL_does_454 ?_
  show gAt X 5 46 9 w (h1 + 2 + 2) (sbE (sbE (gUp gE0 h0 (some (wdA D cy 6))) cy (h1) (h1 + 1) (([] : List Int32) ++ fByt.getD 24 []).length (([] : List Int32) ++ fByt.getD 24 [])) cy (h1 + 2) (h1 + 2 + 1) ((((([] : List Int32) ++ fByt.getD 25 []) ++ [nI (48 + t)]) ++ fByt.getD 26 []) ++ [nI (48 + u)]).length ((((([] : List Int32) ++ fByt.getD 25 []) ++ [nI (48 + t)]) ++ fByt.getD 26 []) ++ [nI (48 + u)])) [(8, .ref h0), (7, .int (nI v)), (0, .ref sa), (1, .int (nI ii)), (2, .int (nI kd)), (3, .ref x), (4, .int (nI t)), (5, .int (nI g)), (6, .int (nI u))] [.ref (h1 + 2), .ref (h1), .ref x] 457
  have hI : ((((([] : List Int32) ++ fByt.getD 25 []) ++ [nI (48 + t)]) ++ fByt.getD 26 []) ++ [nI (48 + u)]) = tI v t g u := by
    unfold tI
    rw [if_pos hv4]
  have hil := tI_l (v := v) (t := t) (g := g) (u := u)
  have hib := tI_b (v := v) (g := g) ht9 hu9
  rw [← hI] at hil hib
  refine d_toS (t := ((((([] : List Int32) ++ fByt.getD 25 []) ++ [nI (48 + t)]) ++ fByt.getD 26 []) ++ [nI (48 + u)])) hC (by omega) (by omega) (by omega) (by omega) hib ⟨by omega, by omega⟩ (Nat.le_of_ble_eq_true rfl) dL_does_457 ?_
  refine g_goto hC 562 dL_does_460 (by decide) ?_
  have hqv : ¬ (h1 + 2 + 2) = (h1 + 2 + 2) + 1 := by omega
  refine g_drop (dr_sub (b1 := (h1)) (a1 := (h1 + 1)) (by omega) (by omega) (by omega) (by omega) (by omega) (by omega) (by omega) (by omega) (by omega) hqv) ?_
  have hl24 : (([] : List Int32) ++ fByt.getD 24 []).length = 2 := by simp only [List.length_append, List.length_nil, l24]
  refine d_tail hC hL hEn (sVw_pin hC ((sbE_n (by omega) (by omega)).trans ((gUp_n hqv).trans (gUp_s _ _ _))) ((sbE_n (by omega) (by omega)).trans (gUp_s _ _ _)) (sbE_n (by omega) (by omega)) (sbE_n (by omega) (by omega)) (s_sub sbE_sub)) (by omega) (by omega) (by omega) (by omega) (tB_app (fun _ h => absurd h List.not_mem_nil) (tB_c 24 (by decide))) hib ?_ ⟨by omega, by omega⟩
  rw [hI]
  exact hR
set_option maxHeartbeats 4000000 in
theorem do_D1 (hC : fOK X cL_does 9 RL rmD l D cy) (hL : lOK X gE0 (some (sa, n, f))) (hEn : fEnd X (some .int) (some (.int r)) w w' 25 182) (h01 : h0 < h1) (hv : v < 1000) (ht9 : t < 10) (hu9 : u < 10) (hv4 : v % 4 = 1) (hR : RDS x (tD v t g u) w r w') : gAt X 1 6 9 w h1 (gUp gE0 h0 (some (wdA D cy 6))) [(8, .ref h0), (7, .int (nI v)), (0, .ref sa), (1, .int (nI ii)), (2, .int (nI kd)), (3, .ref x), (4, .int (nI t)), (5, .int (nI g)), (6, .int (nI u))] [] 407 := by
  have hw := wd_len (v % 6) (Nat.mod_lt _ (by decide))
  have l20 : (fByt.getD 20 []).length = 1 := rfl
  have l21 : (fByt.getD 21 []).length = 1 := rfl
  have l22 : (fByt.getD 22 []).length = 1 := rfl
  have l23 : (fByt.getD 23 []).length = 1 := rfl
  have l24 : (fByt.getD 24 []).length = 2 := rfl
  have l25 : (fByt.getD 25 []).length = 1 := rfl
  have l26 : (fByt.getD 26 []).length = 2 := rfl
  have l27 : (fByt.getD 27 []).length = 1 := rfl
  have l28 : (fByt.getD 28 []).length = 1 := rfl
  have l29 : (fByt.getD 29 []).length = 1 := rfl
  have l30 : (fByt.getD 30 []).length = 1 := rfl
  have l31 : (fByt.getD 31 []).length = 1 := rfl
  have m5 : v % 5 < 5 := Nat.mod_lt _ (by decide)
  have m3 : v % 3 < 3 := Nat.mod_lt _ (by decide)
  have m6 : v % 6 < 6 := Nat.mod_lt _ (by decide)
  have m51 : (v + 1) % 5 < 5 := Nat.mod_lt _ (by decide)
  refine g_aload_n hC dL_does_407 rfl 5 rfl ?_
  refine d_new hC ⟨by omega, by omega⟩ (Nat.le_of_ble_eq_true rfl) dL_does_408 dL_does_411 dL_does_412 ?_
  show gAt X 3 26 9 w (h1 + 2) (sbE (gUp gE0 h0 (some (wdA D cy 6))) cy (h1) (h1 + 1) ([] : List Int32).length ([] : List Int32)) [(8, .ref h0), (7, .int (nI v)), (0, .ref sa), (1, .int (nI ii)), (2, .int (nI kd)), (3, .ref x), (4, .int (nI t)), (5, .int (nI g)), (6, .int (nI u))] [.ref (h1), .ref x] 415
  refine g_ldcW hC 24 rfl dL_does_415 ?_
  refine d_apC (t := ([] : List Int32)) hC 24 (by omega) (by omega) (by simp only [List.length_append, List.length_cons, List.length_nil, l20, l21, l22, l23, l24, l25, l26, l27, l28, l29, l30, l31]; omega) ⟨by omega, by omega⟩ (Nat.le_of_ble_eq_true rfl) dL_does_418 ?_
  show gAt X 3 26 9 w (h1 + 2) (sbE (gUp gE0 h0 (some (wdA D cy 6))) cy (h1) (h1 + 1) (([] : List Int32) ++ fByt.getD 24 []).length (([] : List Int32) ++ fByt.getD 24 [])) [(8, .ref h0), (7, .int (nI v)), (0, .ref sa), (1, .int (nI ii)), (2, .int (nI kd)), (3, .ref x), (4, .int (nI t)), (5, .int (nI g)), (6, .int (nI u))] [.ref (h1), .ref x] 421
  refine g_iload hC dL_does_421 1 rfl ?_
  refine g_iconst (v := (nI 4)) hC dL_does_423 (by decide) ?_
  refine g_irem hC dL_does_424 (by decide) ?_
  rw [frem_n (a := v) (d := 4) (by omega) (by decide) (by decide)]
  refine g_if_ne hC 463 dL_does_425 (by decide) (fun _ => ?_) (fun h9 => absurd h9 (nI_ne0 (by omega) (by omega)))
  refine g_iload hC dL_does_463 1 rfl ?_
  refine g_iconst (v := (nI 4)) hC dL_does_465 (by decide) ?_
  refine g_irem hC dL_does_466 (by decide) ?_
  rw [frem_n (a := v) (d := 4) (by omega) (by decide) (by decide)]
  refine g_iconst (v := (nI 1)) hC dL_does_467 (by decide) ?_
  rw [hv4]
  refine g_icmp_ne hC 510 dL_does_468 (by decide) (fun h9 => absurd rfl h9) (fun _ => ?_)
  refine d_new hC ⟨by omega, by omega⟩ (Nat.le_of_ble_eq_true rfl) dL_does_471 dL_does_474 dL_does_475 ?_
  show gAt X 5 46 9 w (h1 + 2 + 2) (sbE (sbE (gUp gE0 h0 (some (wdA D cy 6))) cy (h1) (h1 + 1) (([] : List Int32) ++ fByt.getD 24 []).length (([] : List Int32) ++ fByt.getD 24 [])) cy (h1 + 2) (h1 + 2 + 1) ([] : List Int32).length ([] : List Int32)) [(8, .ref h0), (7, .int (nI v)), (0, .ref sa), (1, .int (nI ii)), (2, .int (nI kd)), (3, .ref x), (4, .int (nI t)), (5, .int (nI g)), (6, .int (nI u))] [.ref (h1 + 2), .ref (h1), .ref x] 478
  refine g_ldcW hC 27 rfl dL_does_478 ?_
  refine d_apC (t := ([] : List Int32)) hC 27 (by omega) (by omega) (by simp only [List.length_append, List.length_cons, List.length_nil, l20, l21, l22, l23, l24, l25, l26, l27, l28, l29, l30, l31]; omega) ⟨by omega, by omega⟩ (Nat.le_of_ble_eq_true rfl) dL_does_481 ?_
  show gAt X 5 46 9 w (h1 + 2 + 2) (sbE (sbE (gUp gE0 h0 (some (wdA D cy 6))) cy (h1) (h1 + 1) (([] : List Int32) ++ fByt.getD 24 []).length (([] : List Int32) ++ fByt.getD 24 [])) cy (h1 + 2) (h1 + 2 + 1) (([] : List Int32) ++ fByt.getD 27 []).length (([] : List Int32) ++ fByt.getD 27 [])) [(8, .ref h0), (7, .int (nI v)), (0, .ref sa), (1, .int (nI ii)), (2, .int (nI kd)), (3, .ref x), (4, .int (nI t)), (5, .int (nI g)), (6, .int (nI u))] [.ref (h1 + 2), .ref (h1), .ref x] 484
  refine g_iload hC dL_does_484 1 rfl ?_
  refine g_iconst (v := (nI 3)) hC dL_does_486 (by decide) ?_
  refine g_irem hC dL_does_487 (by decide) ?_
  rw [frem_n (a := v) (d := 3) (by omega) (by decide) (by decide)]
  refine d_apI (t := (([] : List Int32) ++ fByt.getD 27 [])) (d := (v % 3)) hC (by omega) (by omega) (by simp only [List.length_append, List.length_cons, List.length_nil, l20, l21, l22, l23, l24, l25, l26, l27, l28, l29, l30, l31]; omega) ⟨by omega, by omega⟩ (Nat.le_of_ble_eq_true rfl) dL_does_488 ?_
  show gAt X 5 46 9 w (h1 + 2 + 2) (sbE (sbE (gUp gE0 h0 (some (wdA D cy 6))) cy (h1) (h1 + 1) (([] : List Int32) ++ fByt.getD 24 []).length (([] : List Int32) ++ fByt.getD 24 [])) cy (h1 + 2) (h1 + 2 + 1) ((([] : List Int32) ++ fByt.getD 27 []) ++ [nI (48 + (v % 3))]).length ((([] : List Int32) ++ fByt.getD 27 []) ++ [nI (48 + (v % 3))])) [(8, .ref h0), (7, .int (nI v)), (0, .ref sa), (1, .int (nI ii)), (2, .int (nI kd)), (3, .ref x), (4, .int (nI t)), (5, .int (nI g)), (6, .int (nI u))] [.ref (h1 + 2), .ref (h1), .ref x] 491
  refine g_ldcW hC 28 rfl dL_does_491 ?_
  refine d_apC (t := ((([] : List Int32) ++ fByt.getD 27 []) ++ [nI (48 + (v % 3))])) hC 28 (by omega) (by omega) (by simp only [List.length_append, List.length_cons, List.length_nil, l20, l21, l22, l23, l24, l25, l26, l27, l28, l29, l30, l31]; omega) ⟨by omega, by omega⟩ (Nat.le_of_ble_eq_true rfl) dL_does_494 ?_
  show gAt X 5 46 9 w (h1 + 2 + 2) (sbE (sbE (gUp gE0 h0 (some (wdA D cy 6))) cy (h1) (h1 + 1) (([] : List Int32) ++ fByt.getD 24 []).length (([] : List Int32) ++ fByt.getD 24 [])) cy (h1 + 2) (h1 + 2 + 1) (((([] : List Int32) ++ fByt.getD 27 []) ++ [nI (48 + (v % 3))]) ++ fByt.getD 28 []).length (((([] : List Int32) ++ fByt.getD 27 []) ++ [nI (48 + (v % 3))]) ++ fByt.getD 28 [])) [(8, .ref h0), (7, .int (nI v)), (0, .ref sa), (1, .int (nI ii)), (2, .int (nI kd)), (3, .ref x), (4, .int (nI t)), (5, .int (nI g)), (6, .int (nI u))] [.ref (h1 + 2), .ref (h1), .ref x] 497
  refine g_iload hC dL_does_497 1 rfl ?_
  refine g_iconst (v := (nI 5)) hC dL_does_499 (by decide) ?_
  refine g_irem hC dL_does_500 (by decide) ?_
  rw [frem_n (a := v) (d := 5) (by omega) (by decide) (by decide)]
  refine d_apI (t := (((([] : List Int32) ++ fByt.getD 27 []) ++ [nI (48 + (v % 3))]) ++ fByt.getD 28 [])) (d := (v % 5)) hC (by omega) (by omega) (by simp only [List.length_append, List.length_cons, List.length_nil, l20, l21, l22, l23, l24, l25, l26, l27, l28, l29, l30, l31]; omega) ⟨by omega, by omega⟩ (Nat.le_of_ble_eq_true rfl) dL_does_501 ?_
  show gAt X 5 46 9 w (h1 + 2 + 2) (sbE (sbE (gUp gE0 h0 (some (wdA D cy 6))) cy (h1) (h1 + 1) (([] : List Int32) ++ fByt.getD 24 []).length (([] : List Int32) ++ fByt.getD 24 [])) cy (h1 + 2) (h1 + 2 + 1) ((((([] : List Int32) ++ fByt.getD 27 []) ++ [nI (48 + (v % 3))]) ++ fByt.getD 28 []) ++ [nI (48 + (v % 5))]).length ((((([] : List Int32) ++ fByt.getD 27 []) ++ [nI (48 + (v % 3))]) ++ fByt.getD 28 []) ++ [nI (48 + (v % 5))])) [(8, .ref h0), (7, .int (nI v)), (0, .ref sa), (1, .int (nI ii)), (2, .int (nI kd)), (3, .ref x), (4, .int (nI t)), (5, .int (nI g)), (6, .int (nI u))] [.ref (h1 + 2), .ref (h1), .ref x] 504
  have hI : ((((([] : List Int32) ++ fByt.getD 27 []) ++ [nI (48 + (v % 3))]) ++ fByt.getD 28 []) ++ [nI (48 + (v % 5))]) = tI v t g u := by
    unfold tI
    rw [if_neg (by omega), if_pos hv4]
  have hil := tI_l (v := v) (t := t) (g := g) (u := u)
  have hib := tI_b (v := v) (g := g) ht9 hu9
  rw [← hI] at hil hib
  refine d_toS (t := ((((([] : List Int32) ++ fByt.getD 27 []) ++ [nI (48 + (v % 3))]) ++ fByt.getD 28 []) ++ [nI (48 + (v % 5))])) hC (by omega) (by omega) (by omega) (by omega) hib ⟨by omega, by omega⟩ (Nat.le_of_ble_eq_true rfl) dL_does_504 ?_
  refine g_goto hC 562 dL_does_507 (by decide) ?_
  have hqv : ¬ (h1 + 2 + 2) = (h1 + 2 + 2) + 1 := by omega
  refine g_drop (dr_sub (b1 := (h1)) (a1 := (h1 + 1)) (by omega) (by omega) (by omega) (by omega) (by omega) (by omega) (by omega) (by omega) (by omega) hqv) ?_
  have hl24 : (([] : List Int32) ++ fByt.getD 24 []).length = 2 := by simp only [List.length_append, List.length_nil, l24]
  refine d_tail hC hL hEn (sVw_pin hC ((sbE_n (by omega) (by omega)).trans ((gUp_n hqv).trans (gUp_s _ _ _))) ((sbE_n (by omega) (by omega)).trans (gUp_s _ _ _)) (sbE_n (by omega) (by omega)) (sbE_n (by omega) (by omega)) (s_sub sbE_sub)) (by omega) (by omega) (by omega) (by omega) (tB_app (fun _ h => absurd h List.not_mem_nil) (tB_c 24 (by decide))) hib ?_ ⟨by omega, by omega⟩
  rw [hI]
  exact hR
set_option maxHeartbeats 4000000 in
theorem do_D20 (hC : fOK X cL_does 9 RL rmD l D cy) (hL : lOK X gE0 (some (sa, n, f))) (hEn : fEnd X (some .int) (some (.int r)) w w' 25 182) (h01 : h0 < h1) (hv : v < 1000) (ht9 : t < 10) (hu9 : u < 10) (hv4 : v % 4 = 2) (hg9 : g = 0) (hR : RDS x (tD v t g u) w r w') : gAt X 1 6 9 w h1 (gUp gE0 h0 (some (wdA D cy 6))) [(8, .ref h0), (7, .int (nI v)), (0, .ref sa), (1, .int (nI ii)), (2, .int (nI kd)), (3, .ref x), (4, .int (nI t)), (5, .int (nI g)), (6, .int (nI u))] [] 407 := by
  have hw := wd_len (v % 6) (Nat.mod_lt _ (by decide))
  have l20 : (fByt.getD 20 []).length = 1 := rfl
  have l21 : (fByt.getD 21 []).length = 1 := rfl
  have l22 : (fByt.getD 22 []).length = 1 := rfl
  have l23 : (fByt.getD 23 []).length = 1 := rfl
  have l24 : (fByt.getD 24 []).length = 2 := rfl
  have l25 : (fByt.getD 25 []).length = 1 := rfl
  have l26 : (fByt.getD 26 []).length = 2 := rfl
  have l27 : (fByt.getD 27 []).length = 1 := rfl
  have l28 : (fByt.getD 28 []).length = 1 := rfl
  have l29 : (fByt.getD 29 []).length = 1 := rfl
  have l30 : (fByt.getD 30 []).length = 1 := rfl
  have l31 : (fByt.getD 31 []).length = 1 := rfl
  have m5 : v % 5 < 5 := Nat.mod_lt _ (by decide)
  have m3 : v % 3 < 3 := Nat.mod_lt _ (by decide)
  have m6 : v % 6 < 6 := Nat.mod_lt _ (by decide)
  have m51 : (v + 1) % 5 < 5 := Nat.mod_lt _ (by decide)
  refine g_aload_n hC dL_does_407 rfl 5 rfl ?_
  refine d_new hC ⟨by omega, by omega⟩ (Nat.le_of_ble_eq_true rfl) dL_does_408 dL_does_411 dL_does_412 ?_
  show gAt X 3 26 9 w (h1 + 2) (sbE (gUp gE0 h0 (some (wdA D cy 6))) cy (h1) (h1 + 1) ([] : List Int32).length ([] : List Int32)) [(8, .ref h0), (7, .int (nI v)), (0, .ref sa), (1, .int (nI ii)), (2, .int (nI kd)), (3, .ref x), (4, .int (nI t)), (5, .int (nI g)), (6, .int (nI u))] [.ref (h1), .ref x] 415
  refine g_ldcW hC 24 rfl dL_does_415 ?_
  refine d_apC (t := ([] : List Int32)) hC 24 (by omega) (by omega) (by simp only [List.length_append, List.length_cons, List.length_nil, l20, l21, l22, l23, l24, l25, l26, l27, l28, l29, l30, l31]; omega) ⟨by omega, by omega⟩ (Nat.le_of_ble_eq_true rfl) dL_does_418 ?_
  show gAt X 3 26 9 w (h1 + 2) (sbE (gUp gE0 h0 (some (wdA D cy 6))) cy (h1) (h1 + 1) (([] : List Int32) ++ fByt.getD 24 []).length (([] : List Int32) ++ fByt.getD 24 [])) [(8, .ref h0), (7, .int (nI v)), (0, .ref sa), (1, .int (nI ii)), (2, .int (nI kd)), (3, .ref x), (4, .int (nI t)), (5, .int (nI g)), (6, .int (nI u))] [.ref (h1), .ref x] 421
  refine g_iload hC dL_does_421 1 rfl ?_
  refine g_iconst (v := (nI 4)) hC dL_does_423 (by decide) ?_
  refine g_irem hC dL_does_424 (by decide) ?_
  rw [frem_n (a := v) (d := 4) (by omega) (by decide) (by decide)]
  refine g_if_ne hC 463 dL_does_425 (by decide) (fun _ => ?_) (fun h9 => absurd h9 (nI_ne0 (by omega) (by omega)))
  refine g_iload hC dL_does_463 1 rfl ?_
  refine g_iconst (v := (nI 4)) hC dL_does_465 (by decide) ?_
  refine g_irem hC dL_does_466 (by decide) ?_
  rw [frem_n (a := v) (d := 4) (by omega) (by decide) (by decide)]
  refine g_iconst (v := (nI 1)) hC dL_does_467 (by decide) ?_
  refine g_icmp_ne hC 510 dL_does_468 (by decide) (fun _ => ?_) (fun h9 => absurd ((nI_eq (by omega) (by decide)).mp h9) (by omega))
  refine g_iload hC dL_does_510 1 rfl ?_
  refine g_iconst (v := (nI 4)) hC dL_does_512 (by decide) ?_
  refine g_irem hC dL_does_513 (by decide) ?_
  rw [frem_n (a := v) (d := 4) (by omega) (by decide) (by decide)]
  refine g_iconst (v := (nI 2)) hC dL_does_514 (by decide) ?_
  rw [hv4]
  refine g_icmp_ne hC 559 dL_does_515 (by decide) (fun h9 => absurd rfl h9) (fun _ => ?_)
  refine d_new hC ⟨by omega, by omega⟩ (Nat.le_of_ble_eq_true rfl) dL_does_518 dL_does_521 dL_does_522 ?_
  show gAt X 5 46 9 w (h1 + 2 + 2) (sbE (sbE (gUp gE0 h0 (some (wdA D cy 6))) cy (h1) (h1 + 1) (([] : List Int32) ++ fByt.getD 24 []).length (([] : List Int32) ++ fByt.getD 24 [])) cy (h1 + 2) (h1 + 2 + 1) ([] : List Int32).length ([] : List Int32)) [(8, .ref h0), (7, .int (nI v)), (0, .ref sa), (1, .int (nI ii)), (2, .int (nI kd)), (3, .ref x), (4, .int (nI t)), (5, .int (nI g)), (6, .int (nI u))] [.ref (h1 + 2), .ref (h1), .ref x] 525
  refine g_ldcW hC 29 rfl dL_does_525 ?_
  refine d_apC (t := ([] : List Int32)) hC 29 (by omega) (by omega) (by simp only [List.length_append, List.length_cons, List.length_nil, l20, l21, l22, l23, l24, l25, l26, l27, l28, l29, l30, l31]; omega) ⟨by omega, by omega⟩ (Nat.le_of_ble_eq_true rfl) dL_does_528 ?_
  show gAt X 5 46 9 w (h1 + 2 + 2) (sbE (sbE (gUp gE0 h0 (some (wdA D cy 6))) cy (h1) (h1 + 1) (([] : List Int32) ++ fByt.getD 24 []).length (([] : List Int32) ++ fByt.getD 24 [])) cy (h1 + 2) (h1 + 2 + 1) (([] : List Int32) ++ fByt.getD 29 []).length (([] : List Int32) ++ fByt.getD 29 [])) [(8, .ref h0), (7, .int (nI v)), (0, .ref sa), (1, .int (nI ii)), (2, .int (nI kd)), (3, .ref x), (4, .int (nI t)), (5, .int (nI g)), (6, .int (nI u))] [.ref (h1 + 2), .ref (h1), .ref x] 531
  refine g_iload hC dL_does_531 6 rfl ?_
  refine d_apI (t := (([] : List Int32) ++ fByt.getD 29 [])) (d := t) hC (by omega) (by omega) (by simp only [List.length_append, List.length_cons, List.length_nil, l20, l21, l22, l23, l24, l25, l26, l27, l28, l29, l30, l31]; omega) ⟨by omega, by omega⟩ (Nat.le_of_ble_eq_true rfl) dL_does_533 ?_
  show gAt X 5 46 9 w (h1 + 2 + 2) (sbE (sbE (gUp gE0 h0 (some (wdA D cy 6))) cy (h1) (h1 + 1) (([] : List Int32) ++ fByt.getD 24 []).length (([] : List Int32) ++ fByt.getD 24 [])) cy (h1 + 2) (h1 + 2 + 1) ((([] : List Int32) ++ fByt.getD 29 []) ++ [nI (48 + t)]).length ((([] : List Int32) ++ fByt.getD 29 []) ++ [nI (48 + t)])) [(8, .ref h0), (7, .int (nI v)), (0, .ref sa), (1, .int (nI ii)), (2, .int (nI kd)), (3, .ref x), (4, .int (nI t)), (5, .int (nI g)), (6, .int (nI u))] [.ref (h1 + 2), .ref (h1), .ref x] 536
  refine g_iload hC dL_does_536 7 rfl ?_
  refine g_if_eq hC 547 dL_does_538 (by decide) (fun _ => ?_) (fun h9 => absurd (show nI g = 0 by rw [hg9]; exact nI_0) h9)
  refine g_ldcW hC 31 rfl dL_does_547 ?_
  refine d_apC (t := ((([] : List Int32) ++ fByt.getD 29 []) ++ [nI (48 + t)])) hC 31 (by omega) (by omega) (by simp only [List.length_append, List.length_cons, List.length_nil, l20, l21, l22, l23, l24, l25, l26, l27, l28, l29, l30, l31]; omega) ⟨by omega, by omega⟩ (Nat.le_of_ble_eq_true rfl) dL_does_550 ?_
  show gAt X 5 46 9 w (h1 + 2 + 2) (sbE (sbE (gUp gE0 h0 (some (wdA D cy 6))) cy (h1) (h1 + 1) (([] : List Int32) ++ fByt.getD 24 []).length (([] : List Int32) ++ fByt.getD 24 [])) cy (h1 + 2) (h1 + 2 + 1) (((([] : List Int32) ++ fByt.getD 29 []) ++ [nI (48 + t)]) ++ fByt.getD 31 []).length (((([] : List Int32) ++ fByt.getD 29 []) ++ [nI (48 + t)]) ++ fByt.getD 31 [])) [(8, .ref h0), (7, .int (nI v)), (0, .ref sa), (1, .int (nI ii)), (2, .int (nI kd)), (3, .ref x), (4, .int (nI t)), (5, .int (nI g)), (6, .int (nI u))] [.ref (h1 + 2), .ref (h1), .ref x] 553
  have hI : (((([] : List Int32) ++ fByt.getD 29 []) ++ [nI (48 + t)]) ++ fByt.getD 31 []) = tI v t g u := by
    unfold tI
    rw [if_neg (by omega), if_neg (by omega), if_pos hv4, if_pos hg9]
  have hil := tI_l (v := v) (t := t) (g := g) (u := u)
  have hib := tI_b (v := v) (g := g) ht9 hu9
  rw [← hI] at hil hib
  refine d_toS (t := (((([] : List Int32) ++ fByt.getD 29 []) ++ [nI (48 + t)]) ++ fByt.getD 31 [])) hC (by omega) (by omega) (by omega) (by omega) hib ⟨by omega, by omega⟩ (Nat.le_of_ble_eq_true rfl) dL_does_553 ?_
  refine g_goto hC 562 dL_does_556 (by decide) ?_
  have hqv : ¬ (h1 + 2 + 2) = (h1 + 2 + 2) + 1 := by omega
  refine g_drop (dr_sub (b1 := (h1)) (a1 := (h1 + 1)) (by omega) (by omega) (by omega) (by omega) (by omega) (by omega) (by omega) (by omega) (by omega) hqv) ?_
  have hl24 : (([] : List Int32) ++ fByt.getD 24 []).length = 2 := by simp only [List.length_append, List.length_nil, l24]
  refine d_tail hC hL hEn (sVw_pin hC ((sbE_n (by omega) (by omega)).trans ((gUp_n hqv).trans (gUp_s _ _ _))) ((sbE_n (by omega) (by omega)).trans (gUp_s _ _ _)) (sbE_n (by omega) (by omega)) (sbE_n (by omega) (by omega)) (s_sub sbE_sub)) (by omega) (by omega) (by omega) (by omega) (tB_app (fun _ h => absurd h List.not_mem_nil) (tB_c 24 (by decide))) hib ?_ ⟨by omega, by omega⟩
  rw [hI]
  exact hR
set_option maxHeartbeats 4000000 in
theorem do_D21 (hC : fOK X cL_does 9 RL rmD l D cy) (hL : lOK X gE0 (some (sa, n, f))) (hEn : fEnd X (some .int) (some (.int r)) w w' 25 182) (h01 : h0 < h1) (hv : v < 1000) (ht9 : t < 10) (hu9 : u < 10) (hv4 : v % 4 = 2) (hg9 : 0 < g ∧ g < 2) (hR : RDS x (tD v t g u) w r w') : gAt X 1 6 9 w h1 (gUp gE0 h0 (some (wdA D cy 6))) [(8, .ref h0), (7, .int (nI v)), (0, .ref sa), (1, .int (nI ii)), (2, .int (nI kd)), (3, .ref x), (4, .int (nI t)), (5, .int (nI g)), (6, .int (nI u))] [] 407 := by
  have hw := wd_len (v % 6) (Nat.mod_lt _ (by decide))
  have l20 : (fByt.getD 20 []).length = 1 := rfl
  have l21 : (fByt.getD 21 []).length = 1 := rfl
  have l22 : (fByt.getD 22 []).length = 1 := rfl
  have l23 : (fByt.getD 23 []).length = 1 := rfl
  have l24 : (fByt.getD 24 []).length = 2 := rfl
  have l25 : (fByt.getD 25 []).length = 1 := rfl
  have l26 : (fByt.getD 26 []).length = 2 := rfl
  have l27 : (fByt.getD 27 []).length = 1 := rfl
  have l28 : (fByt.getD 28 []).length = 1 := rfl
  have l29 : (fByt.getD 29 []).length = 1 := rfl
  have l30 : (fByt.getD 30 []).length = 1 := rfl
  have l31 : (fByt.getD 31 []).length = 1 := rfl
  have m5 : v % 5 < 5 := Nat.mod_lt _ (by decide)
  have m3 : v % 3 < 3 := Nat.mod_lt _ (by decide)
  have m6 : v % 6 < 6 := Nat.mod_lt _ (by decide)
  have m51 : (v + 1) % 5 < 5 := Nat.mod_lt _ (by decide)
  refine g_aload_n hC dL_does_407 rfl 5 rfl ?_
  refine d_new hC ⟨by omega, by omega⟩ (Nat.le_of_ble_eq_true rfl) dL_does_408 dL_does_411 dL_does_412 ?_
  show gAt X 3 26 9 w (h1 + 2) (sbE (gUp gE0 h0 (some (wdA D cy 6))) cy (h1) (h1 + 1) ([] : List Int32).length ([] : List Int32)) [(8, .ref h0), (7, .int (nI v)), (0, .ref sa), (1, .int (nI ii)), (2, .int (nI kd)), (3, .ref x), (4, .int (nI t)), (5, .int (nI g)), (6, .int (nI u))] [.ref (h1), .ref x] 415
  refine g_ldcW hC 24 rfl dL_does_415 ?_
  refine d_apC (t := ([] : List Int32)) hC 24 (by omega) (by omega) (by simp only [List.length_append, List.length_cons, List.length_nil, l20, l21, l22, l23, l24, l25, l26, l27, l28, l29, l30, l31]; omega) ⟨by omega, by omega⟩ (Nat.le_of_ble_eq_true rfl) dL_does_418 ?_
  show gAt X 3 26 9 w (h1 + 2) (sbE (gUp gE0 h0 (some (wdA D cy 6))) cy (h1) (h1 + 1) (([] : List Int32) ++ fByt.getD 24 []).length (([] : List Int32) ++ fByt.getD 24 [])) [(8, .ref h0), (7, .int (nI v)), (0, .ref sa), (1, .int (nI ii)), (2, .int (nI kd)), (3, .ref x), (4, .int (nI t)), (5, .int (nI g)), (6, .int (nI u))] [.ref (h1), .ref x] 421
  refine g_iload hC dL_does_421 1 rfl ?_
  refine g_iconst (v := (nI 4)) hC dL_does_423 (by decide) ?_
  refine g_irem hC dL_does_424 (by decide) ?_
  rw [frem_n (a := v) (d := 4) (by omega) (by decide) (by decide)]
  refine g_if_ne hC 463 dL_does_425 (by decide) (fun _ => ?_) (fun h9 => absurd h9 (nI_ne0 (by omega) (by omega)))
  refine g_iload hC dL_does_463 1 rfl ?_
  refine g_iconst (v := (nI 4)) hC dL_does_465 (by decide) ?_
  refine g_irem hC dL_does_466 (by decide) ?_
  rw [frem_n (a := v) (d := 4) (by omega) (by decide) (by decide)]
  refine g_iconst (v := (nI 1)) hC dL_does_467 (by decide) ?_
  refine g_icmp_ne hC 510 dL_does_468 (by decide) (fun _ => ?_) (fun h9 => absurd ((nI_eq (by omega) (by decide)).mp h9) (by omega))
  refine g_iload hC dL_does_510 1 rfl ?_
  refine g_iconst (v := (nI 4)) hC dL_does_512 (by decide) ?_
  refine g_irem hC dL_does_513 (by decide) ?_
  rw [frem_n (a := v) (d := 4) (by omega) (by decide) (by decide)]
  refine g_iconst (v := (nI 2)) hC dL_does_514 (by decide) ?_
  rw [hv4]
  refine g_icmp_ne hC 559 dL_does_515 (by decide) (fun h9 => absurd rfl h9) (fun _ => ?_)
  refine d_new hC ⟨by omega, by omega⟩ (Nat.le_of_ble_eq_true rfl) dL_does_518 dL_does_521 dL_does_522 ?_
  show gAt X 5 46 9 w (h1 + 2 + 2) (sbE (sbE (gUp gE0 h0 (some (wdA D cy 6))) cy (h1) (h1 + 1) (([] : List Int32) ++ fByt.getD 24 []).length (([] : List Int32) ++ fByt.getD 24 [])) cy (h1 + 2) (h1 + 2 + 1) ([] : List Int32).length ([] : List Int32)) [(8, .ref h0), (7, .int (nI v)), (0, .ref sa), (1, .int (nI ii)), (2, .int (nI kd)), (3, .ref x), (4, .int (nI t)), (5, .int (nI g)), (6, .int (nI u))] [.ref (h1 + 2), .ref (h1), .ref x] 525
  refine g_ldcW hC 29 rfl dL_does_525 ?_
  refine d_apC (t := ([] : List Int32)) hC 29 (by omega) (by omega) (by simp only [List.length_append, List.length_cons, List.length_nil, l20, l21, l22, l23, l24, l25, l26, l27, l28, l29, l30, l31]; omega) ⟨by omega, by omega⟩ (Nat.le_of_ble_eq_true rfl) dL_does_528 ?_
  show gAt X 5 46 9 w (h1 + 2 + 2) (sbE (sbE (gUp gE0 h0 (some (wdA D cy 6))) cy (h1) (h1 + 1) (([] : List Int32) ++ fByt.getD 24 []).length (([] : List Int32) ++ fByt.getD 24 [])) cy (h1 + 2) (h1 + 2 + 1) (([] : List Int32) ++ fByt.getD 29 []).length (([] : List Int32) ++ fByt.getD 29 [])) [(8, .ref h0), (7, .int (nI v)), (0, .ref sa), (1, .int (nI ii)), (2, .int (nI kd)), (3, .ref x), (4, .int (nI t)), (5, .int (nI g)), (6, .int (nI u))] [.ref (h1 + 2), .ref (h1), .ref x] 531
  refine g_iload hC dL_does_531 6 rfl ?_
  refine d_apI (t := (([] : List Int32) ++ fByt.getD 29 [])) (d := t) hC (by omega) (by omega) (by simp only [List.length_append, List.length_cons, List.length_nil, l20, l21, l22, l23, l24, l25, l26, l27, l28, l29, l30, l31]; omega) ⟨by omega, by omega⟩ (Nat.le_of_ble_eq_true rfl) dL_does_533 ?_
  show gAt X 5 46 9 w (h1 + 2 + 2) (sbE (sbE (gUp gE0 h0 (some (wdA D cy 6))) cy (h1) (h1 + 1) (([] : List Int32) ++ fByt.getD 24 []).length (([] : List Int32) ++ fByt.getD 24 [])) cy (h1 + 2) (h1 + 2 + 1) ((([] : List Int32) ++ fByt.getD 29 []) ++ [nI (48 + t)]).length ((([] : List Int32) ++ fByt.getD 29 []) ++ [nI (48 + t)])) [(8, .ref h0), (7, .int (nI v)), (0, .ref sa), (1, .int (nI ii)), (2, .int (nI kd)), (3, .ref x), (4, .int (nI t)), (5, .int (nI g)), (6, .int (nI u))] [.ref (h1 + 2), .ref (h1), .ref x] 536
  refine g_iload hC dL_does_536 7 rfl ?_
  refine g_if_eq hC 547 dL_does_538 (by decide) (fun h9 => absurd h9 (nI_ne0 (by omega) (by omega))) (fun _ => ?_)
  refine g_ldcW hC 30 rfl dL_does_541 ?_
  refine g_goto hC 550 dL_does_544 (by decide) ?_
  refine d_apC (t := ((([] : List Int32) ++ fByt.getD 29 []) ++ [nI (48 + t)])) hC 30 (by omega) (by omega) (by simp only [List.length_append, List.length_cons, List.length_nil, l20, l21, l22, l23, l24, l25, l26, l27, l28, l29, l30, l31]; omega) ⟨by omega, by omega⟩ (Nat.le_of_ble_eq_true rfl) dL_does_550 ?_
  show gAt X 5 46 9 w (h1 + 2 + 2) (sbE (sbE (gUp gE0 h0 (some (wdA D cy 6))) cy (h1) (h1 + 1) (([] : List Int32) ++ fByt.getD 24 []).length (([] : List Int32) ++ fByt.getD 24 [])) cy (h1 + 2) (h1 + 2 + 1) (((([] : List Int32) ++ fByt.getD 29 []) ++ [nI (48 + t)]) ++ fByt.getD 30 []).length (((([] : List Int32) ++ fByt.getD 29 []) ++ [nI (48 + t)]) ++ fByt.getD 30 [])) [(8, .ref h0), (7, .int (nI v)), (0, .ref sa), (1, .int (nI ii)), (2, .int (nI kd)), (3, .ref x), (4, .int (nI t)), (5, .int (nI g)), (6, .int (nI u))] [.ref (h1 + 2), .ref (h1), .ref x] 553
  have hI : (((([] : List Int32) ++ fByt.getD 29 []) ++ [nI (48 + t)]) ++ fByt.getD 30 []) = tI v t g u := by
    unfold tI
    rw [if_neg (by omega), if_neg (by omega), if_pos hv4, if_neg (by omega)]
  have hil := tI_l (v := v) (t := t) (g := g) (u := u)
  have hib := tI_b (v := v) (g := g) ht9 hu9
  rw [← hI] at hil hib
  refine d_toS (t := (((([] : List Int32) ++ fByt.getD 29 []) ++ [nI (48 + t)]) ++ fByt.getD 30 [])) hC (by omega) (by omega) (by omega) (by omega) hib ⟨by omega, by omega⟩ (Nat.le_of_ble_eq_true rfl) dL_does_553 ?_
  refine g_goto hC 562 dL_does_556 (by decide) ?_
  have hqv : ¬ (h1 + 2 + 2) = (h1 + 2 + 2) + 1 := by omega
  refine g_drop (dr_sub (b1 := (h1)) (a1 := (h1 + 1)) (by omega) (by omega) (by omega) (by omega) (by omega) (by omega) (by omega) (by omega) (by omega) hqv) ?_
  have hl24 : (([] : List Int32) ++ fByt.getD 24 []).length = 2 := by simp only [List.length_append, List.length_nil, l24]
  refine d_tail hC hL hEn (sVw_pin hC ((sbE_n (by omega) (by omega)).trans ((gUp_n hqv).trans (gUp_s _ _ _))) ((sbE_n (by omega) (by omega)).trans (gUp_s _ _ _)) (sbE_n (by omega) (by omega)) (sbE_n (by omega) (by omega)) (s_sub sbE_sub)) (by omega) (by omega) (by omega) (by omega) (tB_app (fun _ h => absurd h List.not_mem_nil) (tB_c 24 (by decide))) hib ?_ ⟨by omega, by omega⟩
  rw [hI]
  exact hR
set_option maxHeartbeats 4000000 in
theorem do_D3 (hC : fOK X cL_does 9 RL rmD l D cy) (hL : lOK X gE0 (some (sa, n, f))) (hEn : fEnd X (some .int) (some (.int r)) w w' 25 182) (h01 : h0 < h1) (hv : v < 1000) (ht9 : t < 10) (hu9 : u < 10) (hv4 : v % 4 = 3) (hR : RDS x (tD v t g u) w r w') : gAt X 1 6 9 w h1 (gUp gE0 h0 (some (wdA D cy 6))) [(8, .ref h0), (7, .int (nI v)), (0, .ref sa), (1, .int (nI ii)), (2, .int (nI kd)), (3, .ref x), (4, .int (nI t)), (5, .int (nI g)), (6, .int (nI u))] [] 407 := by
  have hw := wd_len (v % 6) (Nat.mod_lt _ (by decide))
  have l20 : (fByt.getD 20 []).length = 1 := rfl
  have l21 : (fByt.getD 21 []).length = 1 := rfl
  have l22 : (fByt.getD 22 []).length = 1 := rfl
  have l23 : (fByt.getD 23 []).length = 1 := rfl
  have l24 : (fByt.getD 24 []).length = 2 := rfl
  have l25 : (fByt.getD 25 []).length = 1 := rfl
  have l26 : (fByt.getD 26 []).length = 2 := rfl
  have l27 : (fByt.getD 27 []).length = 1 := rfl
  have l28 : (fByt.getD 28 []).length = 1 := rfl
  have l29 : (fByt.getD 29 []).length = 1 := rfl
  have l30 : (fByt.getD 30 []).length = 1 := rfl
  have l31 : (fByt.getD 31 []).length = 1 := rfl
  have m5 : v % 5 < 5 := Nat.mod_lt _ (by decide)
  have m3 : v % 3 < 3 := Nat.mod_lt _ (by decide)
  have m6 : v % 6 < 6 := Nat.mod_lt _ (by decide)
  have m51 : (v + 1) % 5 < 5 := Nat.mod_lt _ (by decide)
  refine g_aload_n hC dL_does_407 rfl 5 rfl ?_
  refine d_new hC ⟨by omega, by omega⟩ (Nat.le_of_ble_eq_true rfl) dL_does_408 dL_does_411 dL_does_412 ?_
  show gAt X 3 26 9 w (h1 + 2) (sbE (gUp gE0 h0 (some (wdA D cy 6))) cy (h1) (h1 + 1) ([] : List Int32).length ([] : List Int32)) [(8, .ref h0), (7, .int (nI v)), (0, .ref sa), (1, .int (nI ii)), (2, .int (nI kd)), (3, .ref x), (4, .int (nI t)), (5, .int (nI g)), (6, .int (nI u))] [.ref (h1), .ref x] 415
  refine g_ldcW hC 24 rfl dL_does_415 ?_
  refine d_apC (t := ([] : List Int32)) hC 24 (by omega) (by omega) (by simp only [List.length_append, List.length_cons, List.length_nil, l20, l21, l22, l23, l24, l25, l26, l27, l28, l29, l30, l31]; omega) ⟨by omega, by omega⟩ (Nat.le_of_ble_eq_true rfl) dL_does_418 ?_
  show gAt X 3 26 9 w (h1 + 2) (sbE (gUp gE0 h0 (some (wdA D cy 6))) cy (h1) (h1 + 1) (([] : List Int32) ++ fByt.getD 24 []).length (([] : List Int32) ++ fByt.getD 24 [])) [(8, .ref h0), (7, .int (nI v)), (0, .ref sa), (1, .int (nI ii)), (2, .int (nI kd)), (3, .ref x), (4, .int (nI t)), (5, .int (nI g)), (6, .int (nI u))] [.ref (h1), .ref x] 421
  refine g_iload hC dL_does_421 1 rfl ?_
  refine g_iconst (v := (nI 4)) hC dL_does_423 (by decide) ?_
  refine g_irem hC dL_does_424 (by decide) ?_
  rw [frem_n (a := v) (d := 4) (by omega) (by decide) (by decide)]
  refine g_if_ne hC 463 dL_does_425 (by decide) (fun _ => ?_) (fun h9 => absurd h9 (nI_ne0 (by omega) (by omega)))
  refine g_iload hC dL_does_463 1 rfl ?_
  refine g_iconst (v := (nI 4)) hC dL_does_465 (by decide) ?_
  refine g_irem hC dL_does_466 (by decide) ?_
  rw [frem_n (a := v) (d := 4) (by omega) (by decide) (by decide)]
  refine g_iconst (v := (nI 1)) hC dL_does_467 (by decide) ?_
  refine g_icmp_ne hC 510 dL_does_468 (by decide) (fun _ => ?_) (fun h9 => absurd ((nI_eq (by omega) (by decide)).mp h9) (by omega))
  refine g_iload hC dL_does_510 1 rfl ?_
  refine g_iconst (v := (nI 4)) hC dL_does_512 (by decide) ?_
  refine g_irem hC dL_does_513 (by decide) ?_
  rw [frem_n (a := v) (d := 4) (by omega) (by decide) (by decide)]
  refine g_iconst (v := (nI 2)) hC dL_does_514 (by decide) ?_
  refine g_icmp_ne hC 559 dL_does_515 (by decide) (fun _ => ?_) (fun h9 => absurd ((nI_eq (by omega) (by decide)).mp h9) (by omega))
  refine g_ldcW hC 32 rfl dL_does_559 ?_
  have hI : fByt.getD 32 [] = tI v t g u := by
    unfold tI
    rw [if_neg (by omega), if_neg (by omega), if_neg (by omega)]
  have hl24 : (([] : List Int32) ++ fByt.getD 24 []).length = 2 := by simp only [List.length_append, List.length_nil, l24]
  have l32 : (fByt.getD 32 []).length = 0 := rfl
  refine d_tail (t := (([] : List Int32) ++ fByt.getD 24 [])) (s := fByt.getD 32 []) hC hL hEn (sVw_ok hC (sOK_c hC (i := 32) (by decide)) (s_sub sbE_sub)) (by omega) (by omega) (by omega) (by omega) (tB_app (fun _ h => absurd h List.not_mem_nil) (tB_c 24 (by decide))) (tB_c 32 (by decide)) ?_ ⟨by omega, by omega⟩
  rw [hI]
  exact hR
end DOF
