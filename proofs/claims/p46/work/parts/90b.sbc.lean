set_option maxHeartbeats 4000000 in
theorem s_coder (l : Launch) (D : va_G) (cy : Nat → ClassId) (w : FW) (sz : Nat) (q v : Nat) (t : List Int32) : sSpec l D cy yJ0_coder_7d493 cJ0_coder_7d493 1 (some .byte) { frames := 0, cells := 0, slots := 0, locals := 0 } [.ref q] w sz (gE0) (some (q, v, t)) (some (.int 0)) sz (gE0) := by
  refine s_begin (by decide +kernel) (Nat.le_of_ble_eq_true rfl) (fun X hC hNm hEn hS => ?_)
  show gAt X 0 0 1 w sz (gE0) [(0, .ref q)] [] 0
  refine g_gCS hC q_s564 dJ0_coder_7d493_0 ?_
  refine g_if_eq hC 13 dJ0_coder_7d493_3 (by decide) (fun h9 => absurd h9 (by decide)) (fun _ => ?_)
  refine g_aload_n hC dJ0_coder_7d493_6 rfl 0 rfl ?_
  refine g_tco hC hS q_s1772 dJ0_coder_7d493_7 ?_
  refine g_goto hC 14 dJ0_coder_7d493_10 (by decide) ?_
  exact s_zret hC hEn rfl (fun _ _ h => h) (by decide) dJ0_coder_7d493_14
set_option maxHeartbeats 4000000 in
theorem s_isLat (l : Launch) (D : va_G) (cy : Nat → ClassId) (w : FW) (sz : Nat) (q v : Nat) (t : List Int32) : sSpec l D cy yJ0_isLatin1_aae02 cJ0_isLatin1_aae02 1 (some .boolean) { frames := 0, cells := 0, slots := 0, locals := 0 } [.ref q] w sz (gE0) (some (q, v, t)) (some (.int 1)) sz (gE0) := by
  refine s_begin (by decide +kernel) (Nat.le_of_ble_eq_true rfl) (fun X hC hNm hEn hS => ?_)
  show gAt X 0 0 1 w sz (gE0) [(0, .ref q)] [] 0
  refine g_gCS hC q_s564 dJ0_isLatin1_aae02_0 ?_
  refine g_if_eq hC 17 dJ0_isLatin1_aae02_3 (by decide) (fun h9 => absurd h9 (by decide)) (fun _ => ?_)
  refine g_aload_n hC dJ0_isLatin1_aae02_6 rfl 0 rfl ?_
  refine g_tco hC hS q_s1772 dJ0_isLatin1_aae02_7 ?_
  refine g_if_ne hC 17 dJ0_isLatin1_aae02_10 (by decide) (fun h9 => absurd rfl h9) (fun _ => ?_)
  refine g_iconst (v := 1) hC dJ0_isLatin1_aae02_13 (by decide) ?_
  refine g_goto hC 18 dJ0_isLatin1_aae02_14 (by decide) ?_
  exact s_zret hC hEn rfl (fun _ _ h => h) (by decide) dJ0_isLatin1_aae02_18
theorem shr_0 (x : Int32) : x >>> ((0 : Int32) &&& 31) = x := by simp
theorem shl_0 (x : Int32) : x <<< ((0 : Int32) &&& 31) = x := by simp
set_option maxHeartbeats 4000000 in
theorem s_len (l : Launch) (D : va_G) (cy : Nat → ClassId) (w : FW) (sz : Nat) (q v : Nat) (t : List Int32) : sSpec l D cy yJ0_length_8abf5 cJ0_length_8abf5 1 (some .int) { frames := 1, cells := 0, slots := 0, locals := 20 } [.ref q] w sz (gE0) (some (q, v, t)) (some (.int (nI t.length))) sz (gE0) := by
  refine s_begin (by decide +kernel) (Nat.le_of_ble_eq_true rfl) (fun X hC hNm hEn hS => ?_)
  show gAt X 0 0 1 w sz (gE0) [(0, .ref q)] [] 0
  refine g_aload_n hC dJ0_length_8abf5_0 rfl 0 rfl ?_
  refine g_tva hC hS q_s1773 dJ0_length_8abf5_1 ?_
  refine g_tal hC hS dJ0_length_8abf5_4 ?_
  refine g_aload_n hC dJ0_length_8abf5_5 rfl 0 rfl ?_
  refine s_callT hC [] (s_coder l D cy w sz q v t) (sVw_ok hC hS (fun _ h => absurd rfl h)) (fun _ _ h => nomatch h) (fun _ _ h => Or.inr ⟨rfl, h⟩) (E2 := gE0) q_s1187 q_s1188 q_s144 q_s1185 q_s1186 h9_J0_coder_7d493 ⟨Nat.le_of_ble_eq_true rfl, Nat.le_of_ble_eq_true rfl⟩ 0 0 rfl rfl ⟨Nat.le_of_ble_eq_true rfl, Nat.le_of_ble_eq_true rfl⟩ (Nat.le_of_ble_eq_true rfl) rfl dJ0_length_8abf5_6 ?_
  show gAt X 0 0 1 w sz (gE0) [(0, .ref q)] [.int 0, .int (nI t.length)] 9
  refine g_ishr hC dJ0_length_8abf5_9 ?_
  rw [shr_0]
  exact s_iret hC hEn rfl (fun _ _ h => h) dJ0_length_8abf5_10
theorem g_gSI {X : FX} {cc : ByteArray} {nL : Nat} {own : String} {rm : Room} {l : Launch} {D : va_G} {cy : Nat → ClassId} {cells slots pc h : Nat} {w : FW} {E : gE} {L : List (Nat × Value)} {st : List Value} (hC : fOK X cc nL own rm l D cy) {ix : Nat} (hq : Cond.fieldLink own ix "jdk/internal/util/Preconditions" "SIOOBE_FORMATTER" "Ljava/util/function/BiFunction;" ∈ lwA) (hd : decode cc pc = .ok (.getstatic ix, 3)) (k : ∀ x : Value, x = .null ∨ (∃ a, x = .ref a) → gAt X cells slots nL w h E L (x :: st) (pc + 3)) : gAt X cells slots nL w h E L st pc := by
  obtain ⟨p, l', e, R, s, m, args, below, meth, c, Q, D', cy', A⟩ := X
  obtain ⟨hx, hb, hml, hown, hts, hE, hA, rfl, rfl, rfl, rfl⟩ := hC
  intro H locs ls hz h1 h2 h3 h4
  rcases hE.2.2.2.2.2.2.2.1 with hZ | ⟨a, hZ⟩
  · exact va_gets hx hb hZ h3 hown (hts _ hq) (fun _ h => h) hd (k _ (Or.inl rfl) H locs ls hz h1 h2 h3 h4)
  · exact va_gets hx hb hZ h3 hown (hts _ hq) (fun _ h => h) hd (k _ (Or.inr ⟨a, rfl⟩) H locs ls hz h1 h2 h3 h4)
set_option maxHeartbeats 4000000 in
theorem s_pchk (l : Launch) (D : va_G) (cy : Nat → ClassId) (w : FW) (sz : Nat) (i n : Int32) (v : Value) (hv : v = .null ∨ ∃ a, v = .ref a) (h0 : ¬ i < 0) (hn : i < n) : sSpec l D cy yJ3_checkIndex_8e157 cJ3_checkIndex_8e157 3 (some .int) { frames := 0, cells := 0, slots := 0, locals := 0 } [.int i, .int n, v] w sz (gE0) none (some (.int i)) sz (gE0) := by
  refine s_begin (by decide +kernel) ?_ (fun X hC hNm hEn hS => ?_)
  · rcases hv with rfl | ⟨a, rfl⟩ <;> exact Nat.le_of_ble_eq_true rfl
  have hL9 : lv_args 0 [.int i, .int n, v] = [(0, .int i), (1, .int n), (2, v)] := by
    rcases hv with rfl | ⟨a, rfl⟩ <;> rfl
  rw [hL9]
  refine g_iload_n hC dJ3_checkIndex_8e157_0 rfl 0 rfl ?_
  refine g_if_lt hC 9 dJ3_checkIndex_8e157_1 (by decide) (fun h9 => absurd h9 h0) (fun _ => ?_)
  refine g_iload_n hC dJ3_checkIndex_8e157_4 rfl 0 rfl ?_
  refine g_iload_n hC dJ3_checkIndex_8e157_5 rfl 1 rfl ?_
  refine g_icmp_lt hC 16 dJ3_checkIndex_8e157_6 (by decide) (fun _ => ?_) (fun h9 => absurd hn h9)
  refine g_iload_n hC dJ3_checkIndex_8e157_16 rfl 0 rfl ?_
  exact s_iret hC hEn rfl (fun _ _ h => h) dJ3_checkIndex_8e157_17
set_option maxHeartbeats 4000000 in
theorem s_schk (l : Launch) (D : va_G) (cy : Nat → ClassId) (w : FW) (sz : Nat) (i n : Int32) (h0 : ¬ i < 0) (hn : i < n) : sSpec l D cy yJ0_checkIndex_df160 cJ0_checkIndex_df160 2 none { frames := 1, cells := 0, slots := 0, locals := 22 } [.int i, .int n] w sz (gE0) none none sz (gE0) := by
  refine s_begin (by decide +kernel) (Nat.le_of_ble_eq_true rfl) (fun X hC hNm hEn hS => ?_)
  show gAt X 0 0 2 w sz gE0 [(0, .int i), (1, .int n)] [] 0
  refine g_iload_n hC dJ0_checkIndex_df160_0 rfl 0 rfl ?_
  refine g_iload_n hC dJ0_checkIndex_df160_1 rfl 1 rfl ?_
  refine g_gSI hC q_s572 dJ0_checkIndex_df160_2 (fun x hx => ?_)
  refine s_callS hC [.int i, .int n, x] (s_pchk l D cy w sz i n x hx h0 hn) sVw_none (fun _ _ h => h) (fun _ _ h => Or.inl h) (E2 := gE0) q_s576 q_s148 q_s574 q_s575 h9_J3_checkIndex_8e157 ⟨Nat.le_of_ble_eq_true rfl, Nat.le_of_ble_eq_true rfl⟩ 0 0 rfl rfl ⟨Nat.le_of_ble_eq_true rfl, Nat.le_of_ble_eq_true rfl⟩ (Nat.le_of_ble_eq_true rfl) rfl dJ0_checkIndex_df160_5 ?_
  show gAt X 0 0 2 w sz gE0 [(0, .int i), (1, .int n)] [.int i] 8
  refine g_pop hC dJ0_checkIndex_df160_8 rfl ?_
  exact s_vret hC hEn rfl (fun _ _ h => h) dJ0_checkIndex_df160_9
set_option maxHeartbeats 4000000 in
theorem s_lch (l : Launch) (D : va_G) (cy : Nat → ClassId) (w : FW) (sz : Nat) (q v : Nat) (t : List Int32) (k : Int32) (hok : tOK t) (hk : ¬ (k < 0 ∨ t.length ≤ k.toNatClampNeg)) : sSpec l D cy yJ1_charAt_3b067 cJ1_charAt_3b067 2 (some .char) { frames := 2, cells := 0, slots := 0, locals := 43 } [.ref v, .int k] w sz (gE0) (some (q, v, t)) (some (.int (t.getD k.toNatClampNeg 0))) sz (gE0) := by
  refine s_begin (by decide +kernel) (Nat.le_of_ble_eq_true rfl) (fun X hC hNm hEn hS => ?_)
  show gAt X 0 0 2 w sz (gE0) [(0, .ref v), (1, .int k)] [] 0
  have hlt := fsl_lt hok hk
  refine g_iload_n hC dJ1_charAt_3b067_0 rfl 1 rfl ?_
  refine g_aload_n hC dJ1_charAt_3b067_1 rfl 0 rfl ?_
  refine g_tal hC hS dJ1_charAt_3b067_2 ?_
  refine s_callS hC [.int k, .int (nI t.length)] (s_schk l D cy w sz k (nI t.length) hlt.1 hlt.2) (sVw_none) (fun _ _ h => nomatch h) (fun _ _ h => Or.inr ⟨rfl, h⟩) (E2 := gE0)  q_s571 q_s144 q_s569 q_s570 h9_J0_checkIndex_df160 ⟨Nat.le_of_ble_eq_true rfl, Nat.le_of_ble_eq_true rfl⟩ 0 0 rfl rfl ⟨Nat.le_of_ble_eq_true rfl, Nat.le_of_ble_eq_true rfl⟩ (Nat.le_of_ble_eq_true rfl) rfl dJ1_charAt_3b067_3 ?_
  show gAt X 0 0 2 w sz (gE0) [(0, .ref v), (1, .int k)] [] 6
  refine g_aload_n hC dJ1_charAt_3b067_6 rfl 0 rfl ?_
  refine g_iload_n hC dJ1_charAt_3b067_7 rfl 1 rfl ?_
  refine g_tab hC hS hk dJ1_charAt_3b067_8 ?_
  refine g_sipush (v := 255) hC dJ1_charAt_3b067_9 (by decide) ?_
  refine g_iand hC dJ1_charAt_3b067_12 ?_
  refine g_i2c hC dJ1_charAt_3b067_13 ?_
  rw [tOK_ch hok (Nat.not_le.mp fun h => hk (Or.inr h))]
  exact s_zret hC hEn rfl (fun _ _ h => h) (nar_c (by rw [← tOK_ch hok (Nat.not_le.mp fun h => hk (Or.inr h))]; exact fsc_ch0 _)) dJ1_charAt_3b067_14
set_option maxHeartbeats 4000000 in
theorem s_charAt (l : Launch) (D : va_G) (cy : Nat → ClassId) (w : FW) (sz : Nat) (q v : Nat) (t : List Int32) (k : Int32) (hok : tOK t) (hk : ¬ (k < 0 ∨ t.length ≤ k.toNatClampNeg)) : sSpec l D cy yJ0_charAt_5068e cJ0_charAt_5068e 2 (some .char) { frames := 3, cells := 0, slots := 0, locals := 64 } [.ref q, .int k] w sz (gE0) (some (q, v, t)) (some (.int (t.getD k.toNatClampNeg 0))) sz (gE0) := by
  refine s_begin (by decide +kernel) (Nat.le_of_ble_eq_true rfl) (fun X hC hNm hEn hS => ?_)
  show gAt X 0 0 2 w sz (gE0) [(0, .ref q), (1, .int k)] [] 0
  refine g_aload_n hC dJ0_charAt_5068e_0 rfl 0 rfl ?_
  refine s_callT hC [] (s_isLat l D cy w sz q v t) (sVw_ok hC hS (fun _ h => absurd rfl h)) (fun _ _ h => nomatch h) (fun _ _ h => Or.inr ⟨rfl, h⟩) (E2 := gE0) q_s562 q_s563 q_s144 q_s560 q_s561 h9_J0_isLatin1_aae02 ⟨Nat.le_of_ble_eq_true rfl, Nat.le_of_ble_eq_true rfl⟩ 0 0 rfl rfl ⟨Nat.le_of_ble_eq_true rfl, Nat.le_of_ble_eq_true rfl⟩ (Nat.le_of_ble_eq_true rfl) rfl dJ0_charAt_5068e_1 ?_
  show gAt X 0 0 2 w sz (gE0) [(0, .ref q), (1, .int k)] [.int 1] 4
  refine g_if_eq hC 16 dJ0_charAt_5068e_4 (by decide) (fun h9 => absurd h9 (by decide)) (fun _ => ?_)
  refine g_aload_n hC dJ0_charAt_5068e_7 rfl 0 rfl ?_
  refine g_tva hC hS q_s1773 dJ0_charAt_5068e_8 ?_
  refine g_iload_n hC dJ0_charAt_5068e_11 rfl 1 rfl ?_
  refine s_callS hC [.ref v, .int k] (s_lch l D cy w sz q v t k hok hk) (sVw_ok hC hS (fun _ h => absurd rfl h)) (fun _ _ h => nomatch h) (fun _ _ h => Or.inr ⟨rfl, h⟩) (E2 := gE0)  q_s568 q_s147 q_s566 q_s567 h9_J1_charAt_3b067 ⟨Nat.le_of_ble_eq_true rfl, Nat.le_of_ble_eq_true rfl⟩ 0 0 rfl rfl ⟨Nat.le_of_ble_eq_true rfl, Nat.le_of_ble_eq_true rfl⟩ (Nat.le_of_ble_eq_true rfl) rfl dJ0_charAt_5068e_12 ?_
  show gAt X 0 0 2 w sz (gE0) [(0, .ref q), (1, .int k)] [.int (t.getD k.toNatClampNeg 0)] 15
  exact s_zret hC hEn rfl (fun _ _ h => h) (nar_c (by rw [← tOK_ch hok (Nat.not_le.mp fun h => hk (Or.inr h))]; exact fsc_ch0 _)) dJ0_charAt_5068e_15
/-! A builder: its object at b, its sixteen bytes at a, n letters counted, t those that stand there -/
def sbV (a n : Nat) : Nat → Value := fun k => match k with
  | 0 => .ref a
  | 1 => .int 0
  | 2 => .int 0
  | 3 => .int (nI n)
  | _ => .int 0
def sbE (E : gE) (cy : Nat → ClassId) (b a n : Nat) (t : List Int32) : gE := gUp (gUp E b (some (.inr (5, sbV a n)))) a (some (bYt cy 16 t))
section SBE
variable {E : gE} {cy : Nat → ClassId} {b a n n' : Nat} {t t' : List Int32}
theorem sbE_a : sbE E cy b a n t a = some (bYt cy 16 t) := gUp_s _ _ _
theorem sbE_b (h : ¬ b = a) : sbE E cy b a n t b = some (.inr (5, sbV a n)) := (gUp_n h).trans (gUp_s _ _ _)
theorem sbE_n {q : Nat} (h1 : ¬ q = b) (h2 : ¬ q = a) : sbE E cy b a n t q = E q := (gUp_n h2).trans (gUp_n h1)
theorem sbE_ua : gUp (sbE E cy b a n t) a (some (bYt cy 16 t')) = sbE E cy b a n t' := gUp_gUp _ _ _ _
theorem sbV_3 : updV (sbV a n) 3 (.int (nI n')) = sbV a n' := by
  funext k
  rcases k with _ | _ | _ | _ | k
  · rfl
  · rfl
  · rfl
  · rfl
  · show (if k + 4 = 3 then _ else sbV a n (k + 4)) = _
    rw [if_neg (by omega)]
    rfl
theorem gUp_sw {b a : Nat} (h : ¬ b = a) (E : gE) (x y z : Option (Cell ⊕ (Nat × (Nat → Value)))) : gUp (gUp (gUp E b x) a y) b z = gUp (gUp E b z) a y := by
  funext q
  unfold gUp
  by_cases e : q = b
  · rw [if_pos e, if_neg (by rw [e]; exact h), if_pos e]
  · rw [if_neg e]
    by_cases e2 : q = a
    · rw [if_pos e2, if_pos e2]
    · rw [if_neg e2, if_neg e2, if_neg e, if_neg e]
theorem sbE_ub (h : ¬ b = a) : gUp (sbE E cy b a n t) b (some (.inr (5, updV (sbV a n) 3 (.int (nI n'))))) = sbE E cy b a n' t := by
  unfold sbE
  rw [gUp_sw h, sbV_3]
theorem sbE_sub : ∀ q x, sbE gE0 cy b a n t q = some x → sbE E cy b a n t q = some x := by
  intro q x hx
  by_cases e : q = a
  · subst e
    rw [sbE_a] at hx ⊢
    exact hx
  · by_cases e2 : q = b
    · subst e2
      rw [sbE_b e] at hx ⊢
      exact hx
    · rw [sbE_n e2 e] at hx
      cases hx
theorem sbE_new : ∀ q x, sbE E cy b a n' t' q = some x → sbE gE0 cy b a n' t' q = some x ∨ (sbE gE0 cy b a n t q = none ∧ sbE E cy b a n t q = some x) := by
  intro q x hx
  by_cases e : q = a
  · subst e
    rw [sbE_a] at hx
    exact Or.inl (sbE_a.trans hx)
  · by_cases e2 : q = b
    · subst e2
      rw [sbE_b e] at hx
      exact Or.inl ((sbE_b e).trans hx)
    · rw [sbE_n e2 e] at hx
      exact Or.inr ⟨sbE_n e2 e, (sbE_n e2 e).trans hx⟩
end SBE
/-- letters -/
def tB (t : List Int32) : Prop := ∀ b ∈ t, ∃ k : Nat, k < 128 ∧ b = nI k
theorem tB_fit1 : ∀ k : Nat, k < 128 → fits .byte (.int (nI k)) = true := by decide +kernel
theorem tB_nar1 : ∀ k : Nat, k < 128 → narrow .byte (.int (nI k)) = .int (nI k) := by decide +kernel
theorem tB_ok1 : ∀ k : Nat, k < 128 → fch (nI k &&& 255) = nI k := by decide +kernel
theorem tB_fit {t : List Int32} (h : tB t) {j : Nat} (hj : j < t.length) : fits .byte (.int (t.getD j 0)) = true := by
  rw [List.getD_eq_getElem?_getD, List.getElem?_eq_getElem hj]
  obtain ⟨k, h1, h2⟩ := h _ (List.getElem_mem hj)
  show fits .byte (.int t[j]) = true
  rw [h2]
  exact tB_fit1 k h1
theorem tB_tOK {t : List Int32} (h : tB t) (hl : t.length < 2 ^ 31) : tOK t := ⟨hl, fun b hb => by
  obtain ⟨k, h1, h2⟩ := h b hb
  rw [h2]
  exact tB_ok1 k h1⟩
theorem tB_app {t s : List Int32} (h : tB t) (h' : tB s) : tB (t ++ s) := fun b hb => (List.mem_append.mp hb).elim (h b) (h' b)
theorem tB_dig {d : Nat} (h : d < 10) : tB [nI (48 + d)] := fun b hb => ⟨48 + d, by omega, List.mem_singleton.mp hb⟩
theorem tB_c : ∀ i, i < 33 → ∀ b ∈ fByt.getD i [], ∃ k : Nat, k < 128 ∧ b = nI k := by
  intro i hi b hb
  have h : ∀ i, i < 33 → ∀ b ∈ fByt.getD i [], b = nI b.toNatClampNeg ∧ b.toNatClampNeg < 128 := by decide +kernel
  exact ⟨_, (h i hi b hb).2, (h i hi b hb).1⟩
theorem app_gd (t s : List Int32) (j : Nat) : (t ++ s).getD j 0 = if t.length ≤ j ∧ j < t.length + s.length then s.getD (j - t.length) 0 else t.getD j 0 := by
  rw [List.getD_eq_getElem?_getD]
  by_cases h : j < t.length
  · rw [List.getElem?_append_left h, if_neg (by omega), List.getD_eq_getElem?_getD]
  · rw [List.getElem?_append_right (by omega)]
    by_cases h2 : j < t.length + s.length
    · rw [if_pos ⟨by omega, h2⟩, List.getD_eq_getElem?_getD]
    · rw [if_neg (fun z => h2 z.2), List.getElem?_eq_none (by omega), List.getD_eq_getElem?_getD, List.getElem?_eq_none (by omega)]
theorem app_g1 (t : List Int32) (c : Int32) (j : Nat) : (t ++ [c]).getD j 0 = if j = t.length then c else t.getD j 0 := by
  rw [app_gd]
  by_cases h : j = t.length
  · rw [if_pos ⟨by omega, by show _ < _ + 1; omega⟩, if_pos h, h, Nat.sub_self]
    rfl
  · rw [if_neg (fun z => h (by have := z.2; have h3 : ([c] : List Int32).length = 1 := rfl; rw [h3] at this; omega)), if_neg h]
theorem dg_sz : ∀ d : Nat, d < 10 → ¬ nI d < 0 ∧ ¬ -(nI d) ≤ -10 ∧ -(nI d) > -100 ∧ -(nI d) ≥ -9 ∧ -(-(nI d)) = nI d := by decide +kernel
set_option maxHeartbeats 4000000 in
theorem s_blat (l : Launch) (D : va_G) (cy : Nat → ClassId) (w : FW) (sz : Nat) (b a n : Nat) (t : List Int32) (hab : ¬ b = a) : sSpec l D cy yJ5_isLatin1_aae02 cJ5_isLatin1_aae02 1 (some .boolean) { frames := 0, cells := 0, slots := 0, locals := 0 } [.ref b] w sz (sbE gE0 cy b a n t) none (some (.int 1)) sz (sbE gE0 cy b a n t) := by
  refine s_begin (by decide +kernel) (Nat.le_of_ble_eq_true rfl) (fun X hC hNm hEn hS => ?_)
  show gAt X 0 0 1 w sz (sbE gE0 cy b a n t) [(0, .ref b)] [] 0
  refine g_gCS hC q_648 dJ5_isLatin1_aae02_0 ?_
  refine g_if_eq hC 17 dJ5_isLatin1_aae02_3 (by decide) (fun h9 => absurd h9 (by decide)) (fun _ => ?_)
  refine g_aload_n hC dJ5_isLatin1_aae02_6 rfl 0 rfl ?_
  refine g_getE hC 5 1 rfl (by decide) iJ4 q_657 (sbE_b hab) rfl dJ5_isLatin1_aae02_7 ?_
  refine g_if_ne hC 17 dJ5_isLatin1_aae02_10 (by decide) (fun h9 => absurd rfl h9) (fun _ => ?_)
  refine g_iconst (v := 1) hC dJ5_isLatin1_aae02_13 (by decide) ?_
  refine g_goto hC 18 dJ5_isLatin1_aae02_14 (by decide) ?_
  exact s_zret hC hEn rfl (fun _ _ h => h) (by decide) dJ5_isLatin1_aae02_18
set_option maxHeartbeats 4000000 in
theorem s_gval (l : Launch) (D : va_G) (cy : Nat → ClassId) (w : FW) (sz : Nat) (b a n : Nat) (t : List Int32) (hab : ¬ b = a) : sSpec l D cy yJ5_getValue_6d5f1 cJ5_getValue_6d5f1 1 (some (.array (.byte))) { frames := 0, cells := 0, slots := 0, locals := 0 } [.ref b] w sz (sbE gE0 cy b a n t) none (some (.ref a)) sz (sbE gE0 cy b a n t) := by
  refine s_begin (by decide +kernel) (Nat.le_of_ble_eq_true rfl) (fun X hC hNm hEn hS => ?_)
  show gAt X 0 0 1 w sz (sbE gE0 cy b a n t) [(0, .ref b)] [] 0
  refine g_aload_n hC dJ5_getValue_6d5f1_0 rfl 0 rfl ?_
  refine g_getE hC 5 0 rfl (by decide) iJ4 q_656 (sbE_b hab) rfl dJ5_getValue_6d5f1_1 ?_
  exact s_aret hC (Or.inr ⟨_, rfl⟩) hEn rfl (fun _ _ h => h) dJ5_getValue_6d5f1_4
set_option maxHeartbeats 4000000 in
theorem s_blen (l : Launch) (D : va_G) (cy : Nat → ClassId) (w : FW) (sz : Nat) (b a n : Nat) (t : List Int32) (hab : ¬ b = a) : sSpec l D cy yJ5_length_8abf5 cJ5_length_8abf5 1 (some .int) { frames := 0, cells := 0, slots := 0, locals := 0 } [.ref b] w sz (sbE gE0 cy b a n t) none (some (.int (nI n))) sz (sbE gE0 cy b a n t) := by
  refine s_begin (by decide +kernel) (Nat.le_of_ble_eq_true rfl) (fun X hC hNm hEn hS => ?_)
  show gAt X 0 0 1 w sz (sbE gE0 cy b a n t) [(0, .ref b)] [] 0
  refine g_aload_n hC dJ5_length_8abf5_0 rfl 0 rfl ?_
  refine g_getE hC 5 3 rfl (by decide) iJ4 q_659 (sbE_b hab) rfl dJ5_length_8abf5_1 ?_
  exact s_iret hC hEn rfl (fun _ _ h => h) dJ5_length_8abf5_4
set_option maxHeartbeats 4000000 in
theorem s_sblen (l : Launch) (D : va_G) (cy : Nat → ClassId) (w : FW) (sz : Nat) (b a n : Nat) (t : List Int32) (hab : ¬ b = a) : sSpec l D cy yJ4_length_8abf5 cJ4_length_8abf5 1 (some .int) { frames := 1, cells := 0, slots := 0, locals := 20 } [.ref b] w sz (sbE gE0 cy b a n t) none (some (.int (nI n))) sz (sbE gE0 cy b a n t) := by
  refine s_begin (by decide +kernel) (Nat.le_of_ble_eq_true rfl) (fun X hC hNm hEn hS => ?_)
  show gAt X 0 0 1 w sz (sbE gE0 cy b a n t) [(0, .ref b)] [] 0
  refine g_aload_n hC dJ4_length_8abf5_0 rfl 0 rfl ?_
  refine s_callU (ci := 5) (T := TJ4) (N := 4) (C := "java/lang/StringBuilder") hC [] (s_blen l D cy w sz b a n t hab) (sVw_none) (fun _ _ h => h) (fun _ _ h => Or.inl h) (E2 := (sbE gE0 cy b a n t)) rfl (sbE_b hab) q_823 q_668 q_828 q_90 q_827 q_822 h8_J5_length_8abf5 ⟨Nat.le_of_ble_eq_true rfl, Nat.le_of_ble_eq_true rfl⟩ 0 0 rfl rfl ⟨Nat.le_of_ble_eq_true rfl, Nat.le_of_ble_eq_true rfl⟩ (Nat.le_of_ble_eq_true rfl) rfl dJ4_length_8abf5_1 ?_
  show gAt X 0 0 1 w sz (sbE gE0 cy b a n t) [(0, .ref b)] [.int (nI n)] 4
  exact s_iret hC hEn rfl (fun _ _ h => h) dJ4_length_8abf5_4
set_option maxHeartbeats 4000000 in
theorem s_ens (l : Launch) (D : va_G) (cy : Nat → ClassId) (w : FW) (sz : Nat) (b a n : Nat) (t : List Int32) (hab : ¬ b = a) (q : Nat) (hq : q ≤ 16) : sSpec l D cy yJ5_ensureCapacityInternal_d00df cJ5_ensureCapacityInternal_d00df 3 none { frames := 0, cells := 0, slots := 0, locals := 0 } [.ref b, .int (nI q)] w sz (sbE gE0 cy b a n t) none none sz (sbE gE0 cy b a n t) := by
  refine s_begin (by decide +kernel) (Nat.le_of_ble_eq_true rfl) (fun X hC hNm hEn hS => ?_)
  show gAt X 0 0 3 w sz (sbE gE0 cy b a n t) [(0, .ref b), (1, .int (nI q))] [] 0
  refine g_aload_n hC dJ5_ensureCapacityInternal_d00df_0 rfl 0 rfl ?_
  refine g_getE hC 5 0 rfl (by decide) iJ4 q_656 (sbE_b hab) rfl dJ5_ensureCapacityInternal_d00df_1 ?_
  refine g_alenB hC sbE_a dJ5_ensureCapacityInternal_d00df_4 ?_
  refine g_aload_n hC dJ5_ensureCapacityInternal_d00df_5 rfl 0 rfl ?_
  refine g_getE hC 5 1 rfl (by decide) iJ4 q_657 (sbE_b hab) rfl dJ5_ensureCapacityInternal_d00df_6 ?_
  refine g_ishr hC dJ5_ensureCapacityInternal_d00df_9 ?_
  rw [shr_0]
  refine g_istore_n (L' := [(2, .int (nI 16)), (0, .ref b), (1, .int (nI q))]) hC dJ5_ensureCapacityInternal_d00df_10 rfl (by decide) rfl ?_
  refine g_iload_n hC dJ5_ensureCapacityInternal_d00df_11 rfl 2 rfl ?_
  refine g_iload_n hC dJ5_ensureCapacityInternal_d00df_12 rfl 0 rfl ?_
  refine g_isub hC dJ5_ensureCapacityInternal_d00df_13 ?_
  have hle : nI q - nI 16 ≤ 0 := by
    have h : ∀ q, q ≤ 16 → nI q - nI 16 ≤ 0 := by decide +kernel
    exact h q hq
  refine g_if_le hC 38 dJ5_ensureCapacityInternal_d00df_14 (by decide) (fun _ => ?_) (fun h9 => absurd hle h9)
  exact s_vret hC hEn rfl (fun _ _ h => h) dJ5_ensureCapacityInternal_d00df_38
set_option maxHeartbeats 4000000 in
theorem s_infl (l : Launch) (D : va_G) (cy : Nat → ClassId) (w : FW) (sz : Nat) (b a n : Nat) (t : List Int32) (hab : ¬ b = a) (q v : Nat) (t2 : List Int32) : sSpec l D cy yJ5_inflateIfNeededFor_a7421 cJ5_inflateIfNeededFor_a7421 2 none { frames := 1, cells := 0, slots := 0, locals := 20 } [.ref b, .ref q] w sz (sbE gE0 cy b a n t) (some (q, v, t2)) none sz (sbE gE0 cy b a n t) := by
  refine s_begin (by decide +kernel) (Nat.le_of_ble_eq_true rfl) (fun X hC hNm hEn hS => ?_)
  show gAt X 0 0 2 w sz (sbE gE0 cy b a n t) [(0, .ref b), (1, .ref q)] [] 0
  refine g_gCS hC q_648 dJ5_inflateIfNeededFor_a7421_0 ?_
  refine g_if_eq hC 21 dJ5_inflateIfNeededFor_a7421_3 (by decide) (fun h9 => absurd h9 (by decide)) (fun _ => ?_)
  refine g_aload_n hC dJ5_inflateIfNeededFor_a7421_6 rfl 0 rfl ?_
  refine g_getE hC 5 1 rfl (by decide) iJ4 q_657 (sbE_b hab) rfl dJ5_inflateIfNeededFor_a7421_7 ?_
  refine g_aload_n hC dJ5_inflateIfNeededFor_a7421_10 rfl 1 rfl ?_
  refine s_callT hC [] (s_coder l D cy w sz q v t2) (sVw_ok hC hS (fun _ h => absurd rfl h)) (fun _ _ h => nomatch h) (fun _ _ h => Or.inr ⟨rfl, h⟩) (E2 := (sbE gE0 cy b a n t)) q_s1187 q_s1188 q_s144 q_750 q_s1186 h9_J0_coder_7d493 ⟨Nat.le_of_ble_eq_true rfl, Nat.le_of_ble_eq_true rfl⟩ 0 0 rfl rfl ⟨Nat.le_of_ble_eq_true rfl, Nat.le_of_ble_eq_true rfl⟩ (Nat.le_of_ble_eq_true rfl) rfl dJ5_inflateIfNeededFor_a7421_11 ?_
  show gAt X 0 0 2 w sz (sbE gE0 cy b a n t) [(0, .ref b), (1, .ref q)] [.int 0, .int 0] 14
  refine g_icmp_eq hC 21 dJ5_inflateIfNeededFor_a7421_14 (by decide) (fun _ => ?_) (fun h9 => absurd rfl h9)
  exact s_vret hC hEn rfl (fun _ _ h => h) dJ5_inflateIfNeededFor_a7421_21
set_option maxHeartbeats 4000000 in
theorem s_getB (l : Launch) (D : va_G) (cy : Nat → ClassId) (w : FW) (sz : Nat) (b a n : Nat) (t : List Int32) (hab : ¬ b = a) (q v : Nat) (t2 : List Int32) (hlen : t.length + t2.length ≤ 16) (htb : tB t2) : sSpec l D cy yJ0_getBytes_840e7 cJ0_getBytes_840e7 4 none { frames := 1, cells := 0, slots := 0, locals := 40 } [.ref q, .ref a, .int (nI t.length), .int 0] w sz (sbE gE0 cy b a n t) (some (q, v, t2)) none sz (sbE gE0 cy b a n (t ++ t2)) := by
  refine s_begin (by decide +kernel) (Nat.le_of_ble_eq_true rfl) (fun X hC hNm hEn hS => ?_)
  show gAt X 0 0 4 w sz (sbE gE0 cy b a n t) [(0, .ref q), (1, .ref a), (2, .int (nI t.length)), (3, .int 0)] [] 0
  refine g_aload_n hC dJ0_getBytes_840e7_0 rfl 0 rfl ?_
  refine s_callT hC [] (s_coder l D cy w sz q v t2) (sVw_ok hC hS (fun _ h => absurd rfl h)) (fun _ _ h => nomatch h) (fun _ _ h => Or.inr ⟨rfl, h⟩) (E2 := (sbE gE0 cy b a n t)) q_s1187 q_s1188 q_s144 q_s1185 q_s1186 h9_J0_coder_7d493 ⟨Nat.le_of_ble_eq_true rfl, Nat.le_of_ble_eq_true rfl⟩ 0 0 rfl rfl ⟨Nat.le_of_ble_eq_true rfl, Nat.le_of_ble_eq_true rfl⟩ (Nat.le_of_ble_eq_true rfl) rfl dJ0_getBytes_840e7_1 ?_
  show gAt X 0 0 4 w sz (sbE gE0 cy b a n t) [(0, .ref q), (1, .ref a), (2, .int (nI t.length)), (3, .int 0)] [.int 0] 4
  refine g_iload_n hC dJ0_getBytes_840e7_4 rfl 3 rfl ?_
  refine g_icmp_ne hC 28 dJ0_getBytes_840e7_5 (by decide) (fun h9 => absurd rfl h9) (fun _ => ?_)
  refine g_aload_n hC dJ0_getBytes_840e7_8 rfl 0 rfl ?_
  refine g_tva hC hS q_s1773 dJ0_getBytes_840e7_9 ?_
  refine g_iconst (v := 0) hC dJ0_getBytes_840e7_12 (by decide) ?_
  refine g_aload_n hC dJ0_getBytes_840e7_13 rfl 1 rfl ?_
  refine g_iload_n hC dJ0_getBytes_840e7_14 rfl 2 rfl ?_
  refine g_iload_n hC dJ0_getBytes_840e7_15 rfl 3 rfl ?_
  refine g_ishl hC dJ0_getBytes_840e7_16 ?_
  rw [shl_0]
  refine g_aload_n hC dJ0_getBytes_840e7_17 rfl 0 rfl ?_
  refine g_tva hC hS q_s1773 dJ0_getBytes_840e7_18 ?_
  refine g_tal hC hS dJ0_getBytes_840e7_21 ?_
  refine g_acopy (t' := t ++ t2) (n := 16) (d := t.length) (k9 := t2.length) hC (sSrc_t hS) sbE_a (Nat.le_refl _) hlen (by decide) (fun j hj => tB_fit htb hj) (fun j _ => app_gd t t2 j) q_774 q_713 q_712 q_94 (Nat.le_of_ble_eq_true rfl) (Nat.le_of_ble_eq_true rfl) (Nat.le_of_ble_eq_true rfl) dJ0_getBytes_840e7_22 ?_
  refine g_nm _ (sbE gE0 cy b a n (t ++ t2)) w _ rfl sbE_ua.symm rfl rfl ?_
  refine g_goto hC 43 dJ0_getBytes_840e7_25 (by decide) ?_
  exact s_vret hC hEn rfl (fun _ _ h => h) dJ0_getBytes_840e7_43
set_option maxHeartbeats 4000000 in
theorem s_put (l : Launch) (D : va_G) (cy : Nat → ClassId) (w : FW) (sz : Nat) (b a n : Nat) (t : List Int32) (hab : ¬ b = a) (q v : Nat) (t2 : List Int32) (hlen : t.length + t2.length ≤ 16) (htb : tB t2) : sSpec l D cy yJ5_putStringAt_47b60 cJ5_putStringAt_47b60 3 none { frames := 2, cells := 0, slots := 0, locals := 63 } [.ref b, .int (nI t.length), .ref q] w sz (sbE gE0 cy b a n t) (some (q, v, t2)) none sz (sbE gE0 cy b a n (t ++ t2)) := by
  refine s_begin (by decide +kernel) (Nat.le_of_ble_eq_true rfl) (fun X hC hNm hEn hS => ?_)
  show gAt X 0 0 3 w sz (sbE gE0 cy b a n t) [(0, .ref b), (1, .int (nI t.length)), (2, .ref q)] [] 0
  refine g_aload_n hC dJ5_putStringAt_47b60_0 rfl 0 rfl ?_
  refine g_aload_n hC dJ5_putStringAt_47b60_1 rfl 2 rfl ?_
  refine s_callP (ci := 5) (T := TJ4) (N := 4) (C := "java/lang/StringBuilder") hC [.ref q] (s_infl l D cy w sz b a n t hab q v t2) (sVw_ok hC hS (fun _ h => h)) (fun _ _ h => h) (fun _ _ h => Or.inl h) (E2 := (sbE gE0 cy b a n t)) rfl (sbE_b hab) q_640 q_747 q_717 rfl q_749 q_90 q_746 q_748 h9_J5_inflateIfNeededFor_a7421 ⟨Nat.le_of_ble_eq_true rfl, Nat.le_of_ble_eq_true rfl⟩ 0 0 rfl rfl ⟨Nat.le_of_ble_eq_true rfl, Nat.le_of_ble_eq_true rfl⟩ (Nat.le_of_ble_eq_true rfl) rfl dJ5_putStringAt_47b60_2 ?_
  show gAt X 0 0 3 w sz (sbE gE0 cy b a n t) [(0, .ref b), (1, .int (nI t.length)), (2, .ref q)] [] 5
  refine g_aload_n hC dJ5_putStringAt_47b60_5 rfl 2 rfl ?_
  refine g_aload_n hC dJ5_putStringAt_47b60_6 rfl 0 rfl ?_
  refine g_getE hC 5 0 rfl (by decide) iJ4 q_656 (sbE_b hab) rfl dJ5_putStringAt_47b60_7 ?_
  refine g_iload_n hC dJ5_putStringAt_47b60_10 rfl 1 rfl ?_
  refine g_aload_n hC dJ5_putStringAt_47b60_11 rfl 0 rfl ?_
  refine g_getE hC 5 1 rfl (by decide) iJ4 q_657 (sbE_b hab) rfl dJ5_putStringAt_47b60_12 ?_
  refine s_callT hC [.ref a, .int (nI t.length), .int 0] (s_getB l D cy w sz b a n t hab q v t2 hlen htb) (sVw_ok hC hS (fun _ h => h)) (fun _ _ h => h) (fun _ _ h => Or.inl h) (E2 := (sbE gE0 cy b a n (t ++ t2))) q_772 q_773 q_s144 q_770 q_771 h9_J0_getBytes_840e7 ⟨Nat.le_of_ble_eq_true rfl, Nat.le_of_ble_eq_true rfl⟩ 0 0 rfl rfl ⟨Nat.le_of_ble_eq_true rfl, Nat.le_of_ble_eq_true rfl⟩ (Nat.le_of_ble_eq_true rfl) rfl dJ5_putStringAt_47b60_15 ?_
  show gAt X 0 0 3 w sz (sbE gE0 cy b a n (t ++ t2)) [(0, .ref b), (1, .int (nI t.length)), (2, .ref q)] [] 18
  exact s_vret hC hEn rfl (fun _ _ h => h) dJ5_putStringAt_47b60_18
set_option maxHeartbeats 4000000 in
theorem s_appS (l : Launch) (D : va_G) (cy : Nat → ClassId) (w : FW) (sz : Nat) (b a : Nat) (t : List Int32) (hab : ¬ b = a) (q v : Nat) (t2 : List Int32) (hlen : t.length + t2.length ≤ 16) (htb : tB t2) : sSpec l D cy yJ5_append_cf1ce cJ5_append_cf1ce 3 (some (.object "java/lang/AbstractStringBuilder")) { frames := 3, cells := 0, slots := 0, locals := 85 } [.ref b, .ref q] w sz (sbE gE0 cy b a t.length t) (some (q, v, t2)) (some (.ref b)) sz (sbE gE0 cy b a ((t ++ t2).length) (t ++ t2)) := by
  refine s_begin (by decide +kernel) (Nat.le_of_ble_eq_true rfl) (fun X hC hNm hEn hS => ?_)
  show gAt X 0 0 3 w sz (sbE gE0 cy b a t.length t) [(0, .ref b), (1, .ref q)] [] 0
  refine g_aload_n hC dJ5_append_cf1ce_0 rfl 1 rfl ?_
  refine g_nonnull hC 9 dJ5_append_cf1ce_1 (by decide) ?_
  refine g_aload_n hC dJ5_append_cf1ce_9 rfl 1 rfl ?_
  refine s_callT hC [] (s_len l D cy w sz q v t2) (sVw_ok hC hS (fun _ h => absurd rfl h)) (fun _ _ h => nomatch h) (fun _ _ h => Or.inr ⟨rfl, h⟩) (E2 := (sbE gE0 cy b a t.length t)) q_s1183 q_s1184 q_s144 q_734 q_s1182 h9_J0_length_8abf5 ⟨Nat.le_of_ble_eq_true rfl, Nat.le_of_ble_eq_true rfl⟩ 0 0 rfl rfl ⟨Nat.le_of_ble_eq_true rfl, Nat.le_of_ble_eq_true rfl⟩ (Nat.le_of_ble_eq_true rfl) rfl dJ5_append_cf1ce_10 ?_
  show gAt X 0 0 3 w sz (sbE gE0 cy b a t.length t) [(0, .ref b), (1, .ref q)] [.int (nI t2.length)] 13
  refine g_istore_n (L' := [(2, .int (nI t2.length)), (0, .ref b), (1, .ref q)]) hC dJ5_append_cf1ce_13 rfl (by decide) rfl ?_
  refine g_aload_n hC dJ5_append_cf1ce_14 rfl 1 rfl ?_
  refine g_aload_n hC dJ5_append_cf1ce_15 rfl 1 rfl ?_
  refine g_getE hC 5 3 rfl (by decide) iJ4 q_659 (sbE_b hab) rfl dJ5_append_cf1ce_16 ?_
  refine g_iload_n hC dJ5_append_cf1ce_19 rfl 0 rfl ?_
  refine g_iadd hC dJ5_append_cf1ce_20 ?_
  rw [nI_add]
  refine s_callP (ci := 5) (T := TJ4) (N := 4) (C := "java/lang/StringBuilder") hC [.int (nI (t.length + t2.length))] (s_ens l D cy w sz b a t.length t hab (t.length + t2.length) hlen) (sVw_none) (fun _ _ h => h) (fun _ _ h => Or.inl h) (E2 := (sbE gE0 cy b a t.length t)) rfl (sbE_b hab) q_640 q_682 q_717 rfl q_684 q_90 q_681 q_683 h9_J5_ensureCapacityInternal_d00df ⟨Nat.le_of_ble_eq_true rfl, Nat.le_of_ble_eq_true rfl⟩ 0 0 rfl rfl ⟨Nat.le_of_ble_eq_true rfl, Nat.le_of_ble_eq_true rfl⟩ (Nat.le_of_ble_eq_true rfl) rfl dJ5_append_cf1ce_21 ?_
  show gAt X 0 0 3 w sz (sbE gE0 cy b a t.length t) [(2, .int (nI t2.length)), (0, .ref b), (1, .ref q)] [] 24
  refine g_aload_n hC dJ5_append_cf1ce_24 rfl 1 rfl ?_
  refine g_aload_n hC dJ5_append_cf1ce_25 rfl 1 rfl ?_
  refine g_getE hC 5 3 rfl (by decide) iJ4 q_659 (sbE_b hab) rfl dJ5_append_cf1ce_26 ?_
  refine g_aload_n hC dJ5_append_cf1ce_29 rfl 2 rfl ?_
  refine s_callP (ci := 5) (T := TJ4) (N := 4) (C := "java/lang/StringBuilder") hC [.int (nI t.length), .ref q] (s_put l D cy w sz b a t.length t hab q v t2 hlen htb) (sVw_ok hC hS (fun _ h => h)) (fun _ _ h => h) (fun _ _ h => Or.inl h) (E2 := (sbE gE0 cy b a t.length (t ++ t2))) rfl (sbE_b hab) q_640 q_743 q_717 rfl q_745 q_90 q_742 q_744 h9_J5_putStringAt_47b60 ⟨Nat.le_of_ble_eq_true rfl, Nat.le_of_ble_eq_true rfl⟩ 0 0 rfl rfl ⟨Nat.le_of_ble_eq_true rfl, Nat.le_of_ble_eq_true rfl⟩ (Nat.le_of_ble_eq_true rfl) rfl dJ5_append_cf1ce_30 ?_
  show gAt X 0 0 3 w sz (sbE gE0 cy b a t.length (t ++ t2)) [(2, .int (nI t2.length)), (0, .ref b), (1, .ref q)] [] 33
  refine g_aload_n hC dJ5_append_cf1ce_33 rfl 1 rfl ?_
  refine g_dup hC dJ5_append_cf1ce_34 rfl ?_
  refine g_getE hC 5 3 rfl (by decide) iJ4 q_659 (sbE_b hab) rfl dJ5_append_cf1ce_35 ?_
  refine g_iload_n hC dJ5_append_cf1ce_38 rfl 0 rfl ?_
  refine g_iadd hC dJ5_append_cf1ce_39 ?_
  rw [nI_add, ← List.length_append]
  refine g_putE hC 5 3 rfl (by decide) iJ4 tyJ4 tyJ4_ok nmJ4 q_659 rfl rfl rfl (sbE_b hab) dJ5_append_cf1ce_40 ?_
  refine g_nm _ (sbE gE0 cy b a ((t ++ t2).length) (t ++ t2)) w _ rfl (sbE_ub hab).symm rfl rfl ?_
  refine g_aload_n hC dJ5_append_cf1ce_43 rfl 1 rfl ?_
  exact s_aret hC (Or.inl ⟨_, rfl⟩) hEn rfl (fun _ _ h => h) dJ5_append_cf1ce_44
set_option maxHeartbeats 4000000 in
theorem s_app (l : Launch) (D : va_G) (cy : Nat → ClassId) (w : FW) (sz : Nat) (b a : Nat) (t : List Int32) (hab : ¬ b = a) (q v : Nat) (t2 : List Int32) (hlen : t.length + t2.length ≤ 16) (htb : tB t2) : sSpec l D cy yJ4_append_15ec4 cJ4_append_15ec4 2 (some (.object "java/lang/StringBuilder")) { frames := 4, cells := 0, slots := 0, locals := 107 } [.ref b, .ref q] w sz (sbE gE0 cy b a t.length t) (some (q, v, t2)) (some (.ref b)) sz (sbE gE0 cy b a ((t ++ t2).length) (t ++ t2)) := by
  refine s_begin (by decide +kernel) (Nat.le_of_ble_eq_true rfl) (fun X hC hNm hEn hS => ?_)
  show gAt X 0 0 2 w sz (sbE gE0 cy b a t.length t) [(0, .ref b), (1, .ref q)] [] 0
  refine g_aload_n hC dJ4_append_15ec4_0 rfl 0 rfl ?_
  refine g_aload_n hC dJ4_append_15ec4_1 rfl 1 rfl ?_
  refine s_callU (ci := 5) (T := TJ4) (N := 4) (C := "java/lang/StringBuilder") hC [.ref q] (s_appS l D cy w sz b a t hab q v t2 hlen htb) (sVw_ok hC hS (fun _ h => h)) (fun _ _ h => h) (fun _ _ h => Or.inl h) (E2 := (sbE gE0 cy b a ((t ++ t2).length) (t ++ t2))) rfl (sbE_b hab) q_1438 q_668 q_676 q_90 q_674 q_675 h8_J5_append_cf1ce ⟨Nat.le_of_ble_eq_true rfl, Nat.le_of_ble_eq_true rfl⟩ 0 0 rfl rfl ⟨Nat.le_of_ble_eq_true rfl, Nat.le_of_ble_eq_true rfl⟩ (Nat.le_of_ble_eq_true rfl) rfl dJ4_append_15ec4_2 ?_
  show gAt X 0 0 2 w sz (sbE gE0 cy b a ((t ++ t2).length) (t ++ t2)) [(0, .ref b), (1, .ref q)] [.ref b] 5
  refine g_pop hC dJ4_append_15ec4_5 rfl ?_
  refine g_aload_n hC dJ4_append_15ec4_6 rfl 0 rfl ?_
  exact s_aret hC (Or.inl ⟨_, rfl⟩) hEn rfl (fun _ _ h => h) dJ4_append_15ec4_7
set_option maxHeartbeats 4000000 in
theorem s_ssz (l : Launch) (D : va_G) (cy : Nat → ClassId) (w : FW) (sz : Nat) (d : Nat) (hd : d < 10) : sSpec l D cy yJ6_stringSize_0f7a4 cJ6_stringSize_0f7a4 4 (some .int) { frames := 0, cells := 0, slots := 0, locals := 0 } [.int (nI d)] w sz (gE0) none (some (.int (nI 1))) sz (gE0) := by
  refine s_begin (by decide +kernel) (Nat.le_of_ble_eq_true rfl) (fun X hC hNm hEn hS => ?_)
  show gAt X 0 0 4 w sz (gE0) [(0, .int (nI d))] [] 0
  obtain ⟨d1, d2, d3, d4, d5⟩ := dg_sz d hd
  refine g_iconst (v := 1) hC dJ6_stringSize_0f7a4_0 (by decide) ?_
  refine g_istore_n (L' := [(1, .int 1), (0, .int (nI d))]) hC dJ6_stringSize_0f7a4_1 rfl (by decide) rfl ?_
  refine g_iload_n hC dJ6_stringSize_0f7a4_2 rfl 1 rfl ?_
  refine g_if_lt hC 11 dJ6_stringSize_0f7a4_3 (by decide) (fun h9 => absurd h9 d1) (fun _ => ?_)
  refine g_iconst (v := 0) hC dJ6_stringSize_0f7a4_6 (by decide) ?_
  refine g_istore_n (L' := [(1, .int 0), (0, .int (nI d))]) hC dJ6_stringSize_0f7a4_7 rfl (by decide) rfl ?_
  refine g_iload_n hC dJ6_stringSize_0f7a4_8 rfl 1 rfl ?_
  refine g_ineg hC dJ6_stringSize_0f7a4_9 ?_
  refine g_istore_n (L' := [(0, .int (-(nI d))), (1, .int 0)]) hC dJ6_stringSize_0f7a4_10 rfl (by decide) rfl ?_
  refine g_bipush (v := (-10)) hC dJ6_stringSize_0f7a4_11 (by decide) ?_
  refine g_istore_n (L' := [(2, .int (-10)), (0, .int (-(nI d))), (1, .int 0)]) hC dJ6_stringSize_0f7a4_13 rfl (by decide) rfl ?_
  refine g_iconst (v := 1) hC dJ6_stringSize_0f7a4_14 (by decide) ?_
  refine g_istore_n (L' := [(3, .int 1), (2, .int (-10)), (0, .int (-(nI d))), (1, .int 0)]) hC dJ6_stringSize_0f7a4_15 rfl (by decide) rfl ?_
  refine g_iload_n hC dJ6_stringSize_0f7a4_16 rfl 0 rfl ?_
  refine g_bipush (v := 10) hC dJ6_stringSize_0f7a4_17 (by decide) ?_
  refine g_icmp_ge hC 42 dJ6_stringSize_0f7a4_19 (by decide) (fun h9 => absurd h9 (by decide)) (fun _ => ?_)
  refine g_iload_n hC dJ6_stringSize_0f7a4_22 rfl 2 rfl ?_
  refine g_iload_n hC dJ6_stringSize_0f7a4_23 rfl 1 rfl ?_
  refine g_icmp_le hC 31 dJ6_stringSize_0f7a4_24 (by decide) (fun h9 => absurd h9 d2) (fun _ => ?_)
  refine g_iload_n hC dJ6_stringSize_0f7a4_27 rfl 0 rfl ?_
  refine g_iload_n hC dJ6_stringSize_0f7a4_28 rfl 3 rfl ?_
  refine g_iadd hC dJ6_stringSize_0f7a4_29 ?_
  exact s_iret hC hEn rfl (fun _ _ h => h) dJ6_stringSize_0f7a4_30
set_option maxHeartbeats 4000000 in
theorem s_gch (l : Launch) (D : va_G) (cy : Nat → ClassId) (w : FW) (sz : Nat) (b a n : Nat) (t : List Int32) (hab : ¬ b = a) (d : Nat) (hd : d < 10) (hlen : t.length < 16) : sSpec l D cy yJ6_getChars_ba4f3 cJ6_getChars_ba4f3 7 (some .int) { frames := 0, cells := 0, slots := 0, locals := 0 } [.int (nI d), .int (nI (t.length + 1)), .ref a] w sz (sbE gE0 cy b a n t) none (some (.int (nI t.length))) sz (sbE gE0 cy b a n (t ++ [nI (48 + d)])) := by
  refine s_begin (by decide +kernel) (Nat.le_of_ble_eq_true rfl) (fun X hC hNm hEn hS => ?_)
  show gAt X 0 0 7 w sz (sbE gE0 cy b a n t) [(0, .int (nI d)), (1, .int (nI (t.length + 1))), (2, .ref a)] [] 0
  obtain ⟨d1, d2, d3, d4, d5⟩ := dg_sz d hd
  refine g_iload_n hC dJ6_getChars_ba4f3_0 rfl 1 rfl ?_
  refine g_istore (L' := [(5, .int (nI (t.length + 1))), (0, .int (nI d)), (1, .int (nI (t.length + 1))), (2, .ref a)]) hC dJ6_getChars_ba4f3_1 (by decide) rfl ?_
  refine g_iload_n hC dJ6_getChars_ba4f3_3 rfl 1 rfl ?_
  refine g_if_ge hC 11 dJ6_getChars_ba4f3_4 (by decide) (fun _ => ?_) (fun h9 => absurd (Int32.not_lt.mp d1) h9)
  refine g_iconst (v := 0) hC dJ6_getChars_ba4f3_11 (by decide) ?_
  refine g_istore (L' := [(6, .int 0), (5, .int (nI (t.length + 1))), (0, .int (nI d)), (1, .int (nI (t.length + 1))), (2, .ref a)]) hC dJ6_getChars_ba4f3_12 (by decide) rfl ?_
  refine g_iload hC dJ6_getChars_ba4f3_14 0 rfl ?_
  refine g_if_ne hC 22 dJ6_getChars_ba4f3_16 (by decide) (fun h9 => absurd rfl h9) (fun _ => ?_)
  refine g_iload_n hC dJ6_getChars_ba4f3_19 rfl 2 rfl ?_
  refine g_ineg hC dJ6_getChars_ba4f3_20 ?_
  refine g_istore_n (L' := [(0, .int (-(nI d))), (6, .int 0), (5, .int (nI (t.length + 1))), (1, .int (nI (t.length + 1))), (2, .ref a)]) hC dJ6_getChars_ba4f3_21 rfl (by decide) rfl ?_
  refine g_iload_n hC dJ6_getChars_ba4f3_22 rfl 0 rfl ?_
  refine g_bipush (v := (-100)) hC dJ6_getChars_ba4f3_23 (by decide) ?_
  refine g_icmp_gt hC 72 dJ6_getChars_ba4f3_25 (by decide) (fun _ => ?_) (fun h9 => absurd d3 h9)
  refine g_aload_n hC dJ6_getChars_ba4f3_72 rfl 4 rfl ?_
  refine g_iinc (L' := [(5, .int (nI t.length)), (0, .int (-(nI d))), (6, .int 0), (1, .int (nI (t.length + 1))), (2, .ref a)]) (v := nI t.length) hC dJ6_getChars_ba4f3_73 2 rfl ?_ (by decide) rfl ?_
  · exact nI_m1 t.length
  refine g_iload hC dJ6_getChars_ba4f3_76 0 rfl ?_
  refine g_gDO hC q_790 dJ6_getChars_ba4f3_78 ?_
  refine g_iload_n hC dJ6_getChars_ba4f3_81 rfl 1 rfl ?_
  refine g_ineg hC dJ6_getChars_ba4f3_82 ?_
  rw [d5]
  refine g_dob hC hd dJ6_getChars_ba4f3_83 ?_
  refine g_bastB (t' := t ++ [nI (48 + d)]) hC sbE_a hlen (by decide) (tB_nar1 (48 + d) (by omega)) (fun j _ => app_g1 t _ j) dJ6_getChars_ba4f3_84 ?_
  refine g_nm _ (sbE gE0 cy b a n (t ++ [nI (48 + d)])) w _ rfl sbE_ua.symm rfl rfl ?_
  refine g_iload_n hC dJ6_getChars_ba4f3_85 rfl 1 rfl ?_
  refine g_bipush (v := (-9)) hC dJ6_getChars_ba4f3_86 (by decide) ?_
  refine g_icmp_ge hC 104 dJ6_getChars_ba4f3_88 (by decide) (fun _ => ?_) (fun h9 => absurd d4 h9)
  refine g_iload hC dJ6_getChars_ba4f3_104 2 rfl ?_
  refine g_if_eq hC 118 dJ6_getChars_ba4f3_106 (by decide) (fun _ => ?_) (fun h9 => absurd rfl h9)
  refine g_iload hC dJ6_getChars_ba4f3_118 0 rfl ?_
  exact s_iret hC hEn rfl (fun _ _ h => h) dJ6_getChars_ba4f3_120
set_option maxHeartbeats 4000000 in
theorem s_appI (l : Launch) (D : va_G) (cy : Nat → ClassId) (w : FW) (sz : Nat) (b a : Nat) (t : List Int32) (hab : ¬ b = a) (d : Nat) (hd : d < 10) (hlen : t.length < 16) : sSpec l D cy yJ5_append_c97b9 cJ5_append_c97b9 4 (some (.object "java/lang/AbstractStringBuilder")) { frames := 1, cells := 0, slots := 0, locals := 26 } [.ref b, .int (nI d)] w sz (sbE gE0 cy b a t.length t) none (some (.ref b)) sz (sbE gE0 cy b a ((t ++ [nI (48 + d)]).length) (t ++ [nI (48 + d)])) := by
  refine s_begin (by decide +kernel) (Nat.le_of_ble_eq_true rfl) (fun X hC hNm hEn hS => ?_)
  show gAt X 0 0 4 w sz (sbE gE0 cy b a t.length t) [(0, .ref b), (1, .int (nI d))] [] 0
  refine g_aload_n hC dJ5_append_c97b9_0 rfl 0 rfl ?_
  refine g_getE hC 5 3 rfl (by decide) iJ4 q_659 (sbE_b hab) rfl dJ5_append_c97b9_1 ?_
  refine g_istore_n (L' := [(2, .int (nI t.length)), (0, .ref b), (1, .int (nI d))]) hC dJ5_append_c97b9_4 rfl (by decide) rfl ?_
  refine g_iload_n hC dJ5_append_c97b9_5 rfl 0 rfl ?_
  refine g_iload_n hC dJ5_append_c97b9_6 rfl 2 rfl ?_
  refine s_callS hC [.int (nI d)] (s_ssz l D cy w sz d hd) (sVw_none) (fun _ _ h => nomatch h) (fun _ _ h => Or.inr ⟨rfl, h⟩) (E2 := (sbE gE0 cy b a t.length t))  q_786 q_96 q_784 q_785 h9_J6_stringSize_0f7a4 ⟨Nat.le_of_ble_eq_true rfl, Nat.le_of_ble_eq_true rfl⟩ 0 0 rfl rfl ⟨Nat.le_of_ble_eq_true rfl, Nat.le_of_ble_eq_true rfl⟩ (Nat.le_of_ble_eq_true rfl) rfl dJ5_append_c97b9_7 ?_
  show gAt X 0 0 4 w sz (sbE gE0 cy b a t.length t) [(2, .int (nI t.length)), (0, .ref b), (1, .int (nI d))] [.int (nI 1), .int (nI t.length)] 10
  refine g_iadd hC dJ5_append_c97b9_10 ?_
  rw [nI_add]
  refine g_istore_n (L' := [(3, .int (nI (t.length + 1))), (2, .int (nI t.length)), (0, .ref b), (1, .int (nI d))]) hC dJ5_append_c97b9_11 rfl (by decide) rfl ?_
  refine g_aload_n hC dJ5_append_c97b9_12 rfl 2 rfl ?_
  refine g_iload_n hC dJ5_append_c97b9_13 rfl 0 rfl ?_
  refine s_callP (ci := 5) (T := TJ4) (N := 4) (C := "java/lang/StringBuilder") hC [.int (nI (t.length + 1))] (s_ens l D cy w sz b a t.length t hab (t.length + 1) hlen) (sVw_none) (fun _ _ h => h) (fun _ _ h => Or.inl h) (E2 := (sbE gE0 cy b a t.length t)) rfl (sbE_b hab) q_640 q_682 q_717 rfl q_684 q_90 q_681 q_683 h9_J5_ensureCapacityInternal_d00df ⟨Nat.le_of_ble_eq_true rfl, Nat.le_of_ble_eq_true rfl⟩ 0 0 rfl rfl ⟨Nat.le_of_ble_eq_true rfl, Nat.le_of_ble_eq_true rfl⟩ (Nat.le_of_ble_eq_true rfl) rfl dJ5_append_c97b9_14 ?_
  show gAt X 0 0 4 w sz (sbE gE0 cy b a t.length t) [(3, .int (nI (t.length + 1))), (2, .int (nI t.length)), (0, .ref b), (1, .int (nI d))] [] 17
  refine g_aload_n hC dJ5_append_c97b9_17 rfl 2 rfl ?_
  refine s_callV (ci := 5) (T := TJ4) (N := 4) (C := "java/lang/StringBuilder") hC [] (s_blat l D cy w sz b a t.length t hab) (sVw_none) (fun _ _ h => h) (fun _ _ h => Or.inl h) (E2 := (sbE gE0 cy b a t.length t)) rfl (sbE_b hab) q_717 q_718 q_90 q_714 q_715 h9_J5_isLatin1_aae02 ⟨Nat.le_of_ble_eq_true rfl, Nat.le_of_ble_eq_true rfl⟩ 0 0 rfl rfl ⟨Nat.le_of_ble_eq_true rfl, Nat.le_of_ble_eq_true rfl⟩ (Nat.le_of_ble_eq_true rfl) rfl dJ5_append_c97b9_18 ?_
  show gAt X 0 0 4 w sz (sbE gE0 cy b a t.length t) [(3, .int (nI (t.length + 1))), (2, .int (nI t.length)), (0, .ref b), (1, .int (nI d))] [.int 1] 21
  refine g_if_eq hC 37 dJ5_append_c97b9_21 (by decide) (fun h9 => absurd h9 (by decide)) (fun _ => ?_)
  refine g_iload_n hC dJ5_append_c97b9_24 rfl 3 rfl ?_
  refine g_iload_n hC dJ5_append_c97b9_25 rfl 0 rfl ?_
  refine g_aload_n hC dJ5_append_c97b9_26 rfl 2 rfl ?_
  refine g_getE hC 5 0 rfl (by decide) iJ4 q_656 (sbE_b hab) rfl dJ5_append_c97b9_27 ?_
  refine s_callS hC [.int (nI d), .int (nI (t.length + 1)), .ref a] (s_gch l D cy w sz b a t.length t hab d hd hlen) (sVw_none) (fun _ _ h => h) (fun _ _ h => Or.inl h) (E2 := (sbE gE0 cy b a t.length (t ++ [nI (48 + d)])))  q_789 q_96 q_787 q_788 h9_J6_getChars_ba4f3 ⟨Nat.le_of_ble_eq_true rfl, Nat.le_of_ble_eq_true rfl⟩ 0 0 rfl rfl ⟨Nat.le_of_ble_eq_true rfl, Nat.le_of_ble_eq_true rfl⟩ (Nat.le_of_ble_eq_true rfl) rfl dJ5_append_c97b9_30 ?_
  show gAt X 0 0 4 w sz (sbE gE0 cy b a t.length (t ++ [nI (48 + d)])) [(3, .int (nI (t.length + 1))), (2, .int (nI t.length)), (0, .ref b), (1, .int (nI d))] [.int (nI t.length)] 33
  refine g_pop hC dJ5_append_c97b9_33 rfl ?_
  refine g_goto hC 48 dJ5_append_c97b9_34 (by decide) ?_
  refine g_aload_n hC dJ5_append_c97b9_48 rfl 2 rfl ?_
  refine g_iload_n hC dJ5_append_c97b9_49 rfl 0 rfl ?_
  rw [show nI (t.length + 1) = nI (t ++ [nI (48 + d)]).length from by rw [List.length_append]; rfl]
  refine g_putE hC 5 3 rfl (by decide) iJ4 tyJ4 tyJ4_ok nmJ4 q_659 rfl rfl rfl (sbE_b hab) dJ5_append_c97b9_50 ?_
  refine g_nm _ (sbE gE0 cy b a ((t ++ [nI (48 + d)]).length) (t ++ [nI (48 + d)])) w _ rfl (sbE_ub hab).symm rfl rfl ?_
  refine g_aload_n hC dJ5_append_c97b9_53 rfl 2 rfl ?_
  exact s_aret hC (Or.inl ⟨_, rfl⟩) hEn rfl (fun _ _ h => h) dJ5_append_c97b9_54
set_option maxHeartbeats 4000000 in
theorem s_apI (l : Launch) (D : va_G) (cy : Nat → ClassId) (w : FW) (sz : Nat) (b a : Nat) (t : List Int32) (hab : ¬ b = a) (d : Nat) (hd : d < 10) (hlen : t.length < 16) : sSpec l D cy yJ4_append_bf812 cJ4_append_bf812 2 (some (.object "java/lang/StringBuilder")) { frames := 2, cells := 0, slots := 0, locals := 49 } [.ref b, .int (nI d)] w sz (sbE gE0 cy b a t.length t) none (some (.ref b)) sz (sbE gE0 cy b a ((t ++ [nI (48 + d)]).length) (t ++ [nI (48 + d)])) := by
  refine s_begin (by decide +kernel) (Nat.le_of_ble_eq_true rfl) (fun X hC hNm hEn hS => ?_)
  show gAt X 0 0 2 w sz (sbE gE0 cy b a t.length t) [(0, .ref b), (1, .int (nI d))] [] 0
  refine g_aload_n hC dJ4_append_bf812_0 rfl 0 rfl ?_
  refine g_iload_n hC dJ4_append_bf812_1 rfl 1 rfl ?_
  refine s_callU (ci := 5) (T := TJ4) (N := 4) (C := "java/lang/StringBuilder") hC [.int (nI d)] (s_appI l D cy w sz b a t hab d hd hlen) (sVw_none) (fun _ _ h => h) (fun _ _ h => Or.inl h) (E2 := (sbE gE0 cy b a ((t ++ [nI (48 + d)]).length) (t ++ [nI (48 + d)]))) rfl (sbE_b hab) q_1445 q_668 q_783 q_90 q_781 q_782 h8_J5_append_c97b9 ⟨Nat.le_of_ble_eq_true rfl, Nat.le_of_ble_eq_true rfl⟩ 0 0 rfl rfl ⟨Nat.le_of_ble_eq_true rfl, Nat.le_of_ble_eq_true rfl⟩ (Nat.le_of_ble_eq_true rfl) rfl dJ4_append_bf812_2 ?_
  show gAt X 0 0 2 w sz (sbE gE0 cy b a ((t ++ [nI (48 + d)]).length) (t ++ [nI (48 + d)])) [(0, .ref b), (1, .int (nI d))] [.ref b] 5
  refine g_pop hC dJ4_append_bf812_5 rfl ?_
  refine g_aload_n hC dJ4_append_bf812_6 rfl 0 rfl ?_
  exact s_aret hC (Or.inl ⟨_, rfl⟩) hEn rfl (fun _ _ h => h) dJ4_append_bf812_7
set_option maxHeartbeats 4000000 in
theorem s_min (l : Launch) (D : va_G) (cy : Nat → ClassId) (w : FW) (sz : Nat) (n : Nat) (hn : n < 16) : sSpec l D cy yJ9_min_7cf53 cJ9_min_7cf53 2 (some .int) { frames := 0, cells := 0, slots := 0, locals := 0 } [.int (nI 16), .int (nI n)] w sz (gE0) none (some (.int (nI n))) sz (gE0) := by
  refine s_begin (by decide +kernel) (Nat.le_of_ble_eq_true rfl) (fun X hC hNm hEn hS => ?_)
  show gAt X 0 0 2 w sz (gE0) [(0, .int (nI 16)), (1, .int (nI n))] [] 0
  refine g_iload_n hC dJ9_min_7cf53_0 rfl 0 rfl ?_
  refine g_iload_n hC dJ9_min_7cf53_1 rfl 1 rfl ?_
  refine g_icmp_gt hC 9 dJ9_min_7cf53_2 (by decide) (fun _ => ?_) (fun h9 => absurd (nI_lt hn (by decide)) h9)
  refine g_iload_n hC dJ9_min_7cf53_9 rfl 1 rfl ?_
  exact s_iret hC hEn rfl (fun _ _ h => h) dJ9_min_7cf53_10
set_option maxHeartbeats 4000000 in
theorem s_clen (l : Launch) (D : va_G) (cy : Nat → ClassId) (w : FW) (sz : Nat) (n : Nat) (hn : n < 16) : sSpec l D cy yJ7_checkLength_df160 cJ7_checkLength_df160 2 none { frames := 0, cells := 0, slots := 0, locals := 0 } [.int 0, .int (nI n)] w sz (gE0) none none sz (gE0) := by
  refine s_begin (by decide +kernel) (Nat.le_of_ble_eq_true rfl) (fun X hC hNm hEn hS => ?_)
  show gAt X 0 0 2 w sz (gE0) [(0, .int 0), (1, .int (nI n))] [] 0
  refine g_iload_n hC dJ7_checkLength_df160_0 rfl 1 rfl ?_
  refine g_iload_n hC dJ7_checkLength_df160_1 rfl 0 rfl ?_
  refine g_icmp_ge hC 37 dJ7_checkLength_df160_2 (by decide) (fun _ => ?_) (fun h9 => absurd (nI_pos' (by omega)) h9)
  exact s_vret hC hEn rfl (fun _ _ h => h) dJ7_checkLength_df160_37
theorem g_newaB0 {X : FX} {cc : ByteArray} {nL : Nat} {own : String} {rm : Room} {l : Launch} {D : va_G} {cy : Nat → ClassId} {cells slots pc h : Nat} {w : FW} {E : gE} {L : List (Nat × Value)} {st : List Value} (hC : fOK X cc nL own rm l D cy) {n : Nat} (harr : Cond.arrayClass .byte ∈ lwA) (hn : n ≤ 16) (hcs : cells + 1 ≤ rm.cells ∧ slots + 16 ≤ rm.slots) (hd : decode cc pc = .ok (.newarray .byte, 2)) (k : w.1 h = 0 → E h = none → gAt X (cells + 1) (slots + 16) nL w (h + 1) (gUp E h (some (bYt cy n []))) L (.ref h :: st) (pc + 2)) : gAt X cells slots nL w h E L (.int (nI n) :: st) pc := by
  refine g_newaB (N' := n) hC harr (nI_pos (by omega)) (nI_clamp (by omega)) (by omega) ⟨hcs.1, by omega⟩ hd (fun a b => ?_)
  exact g_widen (Nat.le_refl _) (by omega) (k a b)
set_option maxHeartbeats 4000000 in
theorem s_crb (l : Launch) (D : va_G) (cy : Nat → ClassId) (w : FW) (sz : Nat) (a : Nat) (t : List Int32) (ha : a < sz) (hn : t.length < 16) (htb : tB t) : sSpec l D cy yJ7_copyOfRangeByte_39247 cJ7_copyOfRangeByte_39247 5 (some (.array (.byte))) { frames := 1, cells := 1, slots := 16, locals := 40 } [.ref a, .int 0, .int (nI t.length)] w sz (gUp gE0 a (some (bYt cy 16 t))) none (some (.ref sz)) (sz + 1) (gUp (gUp gE0 a (some (bYt cy 16 t))) sz (some (bYt cy t.length t))) := by
  refine s_begin (by decide +kernel) (Nat.le_of_ble_eq_true rfl) (fun X hC hNm hEn hS => ?_)
  show gAt X 0 0 5 w sz (gUp gE0 a (some (bYt cy 16 t))) [(0, .ref a), (1, .int 0), (2, .int (nI t.length))] [] 0
  refine g_iload_n hC dJ7_copyOfRangeByte_39247_0 rfl 1 rfl ?_
  refine g_iload_n hC dJ7_copyOfRangeByte_39247_1 rfl 2 rfl ?_
  refine s_callS hC [.int 0, .int (nI t.length)] (s_clen l D cy w sz t.length hn) (sVw_none) (fun _ _ h => nomatch h) (fun _ _ h => Or.inr ⟨rfl, h⟩) (E2 := (gUp gE0 a (some (bYt cy 16 t))))  q_838 q_93 q_836 q_837 h9_J7_checkLength_df160 ⟨Nat.le_of_ble_eq_true rfl, Nat.le_of_ble_eq_true rfl⟩ 0 0 rfl rfl ⟨Nat.le_of_ble_eq_true rfl, Nat.le_of_ble_eq_true rfl⟩ (Nat.le_of_ble_eq_true rfl) rfl dJ7_copyOfRangeByte_39247_2 ?_
  show gAt X 0 0 5 w sz (gUp gE0 a (some (bYt cy 16 t))) [(0, .ref a), (1, .int 0), (2, .int (nI t.length))] [] 5
  refine g_iload_n hC dJ7_copyOfRangeByte_39247_5 rfl 2 rfl ?_
  refine g_iload_n hC dJ7_copyOfRangeByte_39247_6 rfl 1 rfl ?_
  refine g_isub hC dJ7_copyOfRangeByte_39247_7 ?_
  rw [show nI t.length - 0 = nI t.length from Int32.sub_zero _]
  refine g_istore_n (L' := [(3, .int (nI t.length)), (0, .ref a), (1, .int 0), (2, .int (nI t.length))]) hC dJ7_copyOfRangeByte_39247_8 rfl (by decide) rfl ?_
  refine g_iload_n hC dJ7_copyOfRangeByte_39247_9 rfl 0 rfl ?_
  refine g_newaB0 hC q_391 (by omega) ⟨Nat.le_of_ble_eq_true rfl, Nat.le_of_ble_eq_true rfl⟩ dJ7_copyOfRangeByte_39247_10 (fun _ _ => ?_)
  refine g_astore (L' := [(4, .ref sz), (3, .int (nI t.length)), (0, .ref a), (1, .int 0), (2, .int (nI t.length))]) hC dJ7_copyOfRangeByte_39247_12 (by decide) rfl ?_
  refine g_aload_n hC dJ7_copyOfRangeByte_39247_14 rfl 2 rfl ?_
  refine g_iload_n hC dJ7_copyOfRangeByte_39247_15 rfl 3 rfl ?_
  refine g_aload hC dJ7_copyOfRangeByte_39247_16 0 rfl ?_
  refine g_iconst (v := (nI 0)) hC dJ7_copyOfRangeByte_39247_18 (by decide) ?_
  refine g_aload_n hC dJ7_copyOfRangeByte_39247_19 rfl 2 rfl ?_
  have hsa : ¬ a = sz := by omega
  refine g_alenB (t := t) (n := 16) hC ((gUp_n hsa).trans (gUp_s _ _ _)) dJ7_copyOfRangeByte_39247_20 ?_
  refine g_iload_n hC dJ7_copyOfRangeByte_39247_21 rfl 3 rfl ?_
  refine g_isub hC dJ7_copyOfRangeByte_39247_22 ?_
  rw [show nI 16 - 0 = nI 16 from Int32.sub_zero _]
  refine g_iload_n hC dJ7_copyOfRangeByte_39247_23 rfl 1 rfl ?_
  refine s_callS hC [.int (nI 16), .int (nI t.length)] (s_min l D cy w (sz + 1) t.length hn) (sVw_none) (fun _ _ h => nomatch h) (fun _ _ h => Or.inr ⟨rfl, h⟩) (E2 := (gUp (gUp gE0 a (some (bYt cy 16 t))) sz (some (bYt cy t.length []))))  q_547 q_85 q_710 q_546 h9_J9_min_7cf53 ⟨Nat.le_of_ble_eq_true rfl, Nat.le_of_ble_eq_true rfl⟩ 0 0 rfl rfl ⟨Nat.le_of_ble_eq_true rfl, Nat.le_of_ble_eq_true rfl⟩ (Nat.le_of_ble_eq_true rfl) rfl dJ7_copyOfRangeByte_39247_24 ?_
  show gAt X 1 16 5 w (sz + 1) (gUp (gUp gE0 a (some (bYt cy 16 t))) sz (some (bYt cy t.length []))) [(4, .ref sz), (3, .int (nI t.length)), (0, .ref a), (1, .int 0), (2, .int (nI t.length))] [.int (nI t.length), .int (nI 0), .ref sz, .int 0, .ref a] 27
  refine g_acopy (t' := t) (n := t.length) (d := 0) (k9 := t.length) hC (sSrc_b (a := a) (n := 16) (t := t) hC ((gUp_n hsa).trans (gUp_s _ _ _))) (gUp_s _ _ _) (by omega) (by omega) (by omega) (fun j hj => tB_fit htb hj) (fun j hj => by rw [if_pos ⟨Nat.zero_le _, by omega⟩, Nat.sub_zero]) q_711 q_713 q_712 q_94 (Nat.le_of_ble_eq_true rfl) (Nat.le_of_ble_eq_true rfl) (Nat.le_of_ble_eq_true rfl) dJ7_copyOfRangeByte_39247_27 ?_
  refine g_nm _ (gUp (gUp gE0 a (some (bYt cy 16 t))) sz (some (bYt cy t.length t))) w _ rfl (gUp_gUp _ _ _ _).symm rfl rfl ?_
  refine g_aload hC dJ7_copyOfRangeByte_39247_30 0 rfl ?_
  exact s_aret hC (Or.inr ⟨_, rfl⟩) hEn rfl (fun _ _ h => h) dJ7_copyOfRangeByte_39247_32
set_option maxHeartbeats 4000000 in
theorem s_cr (l : Launch) (D : va_G) (cy : Nat → ClassId) (w : FW) (sz : Nat) (a : Nat) (t : List Int32) (ha : a < sz) (hn : t.length < 16) (htb : tB t) : sSpec l D cy yJ7_copyOfRange_39247 cJ7_copyOfRange_39247 3 (some (.array (.byte))) { frames := 2, cells := 1, slots := 16, locals := 64 } [.ref a, .int 0, .int (nI t.length)] w sz (gUp gE0 a (some (bYt cy 16 t))) none (some (.ref sz)) (sz + 1) (gUp (gUp gE0 a (some (bYt cy 16 t))) sz (some (bYt cy t.length t))) := by
  refine s_begin (by decide +kernel) (Nat.le_of_ble_eq_true rfl) (fun X hC hNm hEn hS => ?_)
  show gAt X 0 0 3 w sz (gUp gE0 a (some (bYt cy 16 t))) [(0, .ref a), (1, .int 0), (2, .int (nI t.length))] [] 0
  refine g_iload_n hC dJ7_copyOfRange_39247_0 rfl 1 rfl ?_
  refine g_if_ne hC 10 dJ7_copyOfRange_39247_1 (by decide) (fun h9 => absurd rfl h9) (fun _ => ?_)
  refine g_iload_n hC dJ7_copyOfRange_39247_4 rfl 2 rfl ?_
  refine g_aload_n hC dJ7_copyOfRange_39247_5 rfl 0 rfl ?_
  refine g_alenB (t := t) (n := 16) hC (gUp_s _ _ _) dJ7_copyOfRange_39247_6 ?_
  refine g_icmp_eq hC 17 dJ7_copyOfRange_39247_7 (by decide) (fun h9 => absurd ((nI_eq (by omega) (by decide)).mp h9) (by omega)) (fun _ => ?_)
  refine g_aload_n hC dJ7_copyOfRange_39247_10 rfl 0 rfl ?_
  refine g_iload_n hC dJ7_copyOfRange_39247_11 rfl 1 rfl ?_
  refine g_iload_n hC dJ7_copyOfRange_39247_12 rfl 2 rfl ?_
  refine s_callS hC [.ref a, .int 0, .int (nI t.length)] (s_crb l D cy w sz a t ha hn htb) (sVw_none) (fun _ _ h => h) (fun _ _ h => Or.inl h) (E2 := (gUp (gUp gE0 a (some (bYt cy 16 t))) sz (some (bYt cy t.length t))))  q_835 q_93 q_833 q_834 h9_J7_copyOfRangeByte_39247 ⟨Nat.le_of_ble_eq_true rfl, Nat.le_of_ble_eq_true rfl⟩ 1 16 rfl rfl ⟨Nat.le_of_ble_eq_true rfl, Nat.le_of_ble_eq_true rfl⟩ (Nat.le_of_ble_eq_true rfl) rfl dJ7_copyOfRange_39247_13 ?_
  show gAt X 1 16 3 w (sz + 1) (gUp (gUp gE0 a (some (bYt cy 16 t))) sz (some (bYt cy t.length t))) [(0, .ref a), (1, .int 0), (2, .int (nI t.length))] [.ref sz] 16
  exact s_aret hC (Or.inr ⟨_, rfl⟩) hEn rfl (fun _ _ h => h) dJ7_copyOfRange_39247_16
section TOS
variable {E : gE} {cy : Nat → ClassId} {q b a v n : Nat} {t : List Int32}
theorem tq_b {x : Option (Cell ⊕ (Nat × (Nat → Value)))} (hqb : ¬ q = b) (hab : ¬ b = a) : gUp (sbE E cy b a n t) q x b = some (.inr (5, sbV a n)) := (gUp_n (fun h => hqb h.symm)).trans (sbE_b hab)
theorem tq_a {x : Option (Cell ⊕ (Nat × (Nat → Value)))} (hqa : ¬ q = a) : gUp (sbE E cy b a n t) q x a = some (bYt cy 16 t) := (gUp_n (fun h => hqa h.symm)).trans sbE_a
theorem tq_sub {x : Option (Cell ⊕ (Nat × (Nat → Value)))} (hqb : ¬ q = b) (hqa : ¬ q = a) : ∀ p z, sbE gE0 cy b a n t p = some z → gUp (sbE gE0 cy b a n t) q x p = some z := by
  intro p z hz
  by_cases e : p = q
  · subst e
    rw [sbE_n hqb hqa] at hz
    cases hz
  · rw [gUp_n e]
    exact hz
theorem tq_new {x : Option (Cell ⊕ (Nat × (Nat → Value)))} (hqb : ¬ q = b) (hqa : ¬ q = a) : ∀ p z, gUp (sbE gE0 cy b a n t) q x p = some z → sbE gE0 cy b a n t p = some z ∨ (sbE gE0 cy b a n t p = none ∧ gUp (sbE gE0 cy b a n t) q x p = some z) := by
  intro p z hz
  by_cases e : p = q
  · subst e
    exact Or.inr ⟨sbE_n hqb hqa, hz⟩
  · rw [gUp_n e] at hz
    exact Or.inl hz
theorem ta_sub {x : Option (Cell ⊕ (Nat × (Nat → Value)))} (hqa : ¬ q = a) : ∀ p z, gUp gE0 a (some (bYt cy 16 t)) p = some z → gUp (sbE gE0 cy b a n t) q x p = some z := by
  intro p z hz
  by_cases e : p = a
  · subst e
    rw [gUp_s] at hz
    rw [tq_a hqa]
    exact hz
  · rw [gUp_n e] at hz
    cases hz
theorem ta_new {x : Option (Cell ⊕ (Nat × (Nat → Value)))} (hqa : ¬ q = a) : ∀ p z, gUp (gUp (sbE gE0 cy b a n t) q x) v (some (bYt cy t.length t)) p = some z → gUp (gUp gE0 a (some (bYt cy 16 t))) v (some (bYt cy t.length t)) p = some z ∨ (gUp gE0 a (some (bYt cy 16 t)) p = none ∧ gUp (sbE gE0 cy b a n t) q x p = some z) := by
  intro p z hz
  by_cases e : p = v
  · subst e
    rw [gUp_s] at hz
    exact Or.inl ((gUp_s _ _ _).trans hz)
  · rw [gUp_n e] at hz
    by_cases e2 : p = a
    · subst e2
      rw [tq_a hqa] at hz
      exact Or.inl ((gUp_n e).trans ((gUp_s _ _ _).trans hz))
    · exact Or.inr ⟨gUp_n e2, hz⟩
theorem stV_eq : updV (updV (gZ 6) 1 (.int 0)) 0 (.ref v) = stV v := by
  funext k
  rcases k with _ | _ | k
  · rfl
  · rfl
  · show (if k + 2 = 0 then _ else if k + 2 = 1 then _ else gZ 6 (k + 2)) = _
    rw [if_neg (by omega), if_neg (by omega)]
    rfl
theorem tq_up (hvq : ¬ q = v) {x y : Option (Cell ⊕ (Nat × (Nat → Value)))} : gUp (gUp (gUp E q x) v y) q (some (.inr (6, updV (updV (gZ 6) 1 (.int 0)) 0 (.ref v)))) = gUp (gUp E q (some (.inr (6, stV v)))) v y := by
  rw [gUp_sw hvq, stV_eq]
end TOS
set_option maxHeartbeats 4000000 in
theorem s_ini2 (l : Launch) (D : va_G) (cy : Nat → ClassId) (w : FW) (sz : Nat) (q b a : Nat) (t : List Int32) (hab : ¬ b = a) (hq : q < sz) (hb : b < sz) (ha : a < sz) (hqb : ¬ q = b) (hqa : ¬ q = a) (hn : t.length < 16) (htb : tB t) : sSpec l D cy yJ0_init_db425 cJ0_init_db425 5 none { frames := 3, cells := 1, slots := 16, locals := 86 } [.ref q, .ref b, .null] w sz (gUp (sbE gE0 cy b a t.length t) q (some (.inr (6, gZ 6)))) none none (sz + 1) (gUp (gUp (sbE gE0 cy b a t.length t) q (some (.inr (6, stV sz)))) sz (some (bYt cy t.length t))) := by
  refine s_begin (by decide +kernel) (Nat.le_of_ble_eq_true rfl) (fun X hC hNm hEn hS => ?_)
  show gAt X 0 0 5 w sz (gUp (sbE gE0 cy b a t.length t) q (some (.inr (6, gZ 6)))) [(0, .ref q), (1, .ref b), (2, .null)] [] 0
  refine g_aload_n hC dJ0_init_db425_0 rfl 0 rfl ?_
  refine g_objInit hC q_815 q_106 q_107 ⟨Nat.le_of_ble_eq_true rfl, Nat.le_of_ble_eq_true rfl⟩ (Nat.le_of_ble_eq_true rfl) dJ0_init_db425_1 ?_
  refine g_aload_n hC dJ0_init_db425_4 rfl 1 rfl ?_
  refine s_callV (ci := 5) (T := TJ4) (N := 4) (C := "java/lang/StringBuilder") hC [] (s_gval l D cy w sz b a t.length t hab) (sVw_none) (tq_sub hqb hqa) (tq_new hqb hqa) (E2 := (gUp (sbE gE0 cy b a t.length t) q (some (.inr (6, gZ 6))))) rfl (tq_b hqb hab) q_819 q_820 q_90 q_816 q_817 h9_J5_getValue_6d5f1 ⟨Nat.le_of_ble_eq_true rfl, Nat.le_of_ble_eq_true rfl⟩ 0 0 rfl rfl ⟨Nat.le_of_ble_eq_true rfl, Nat.le_of_ble_eq_true rfl⟩ (Nat.le_of_ble_eq_true rfl) rfl dJ0_init_db425_5 ?_
  show gAt X 0 0 5 w sz (gUp (sbE gE0 cy b a t.length t) q (some (.inr (6, gZ 6)))) [(0, .ref q), (1, .ref b), (2, .null)] [.ref a] 8
  refine g_astore_n (L' := [(3, .ref a), (0, .ref q), (1, .ref b), (2, .null)]) hC dJ0_init_db425_8 rfl (by decide) rfl ?_
  refine g_aload_n hC dJ0_init_db425_9 rfl 2 rfl ?_
  refine s_callO (ci := 5) (T := TJ4) (N := 4) (C := "java/lang/StringBuilder") hC [] (s_sblen l D cy w sz b a t.length t hab) (sVw_none) (tq_sub hqb hqa) (tq_new hqb hqa) (E2 := (gUp (sbE gE0 cy b a t.length t) q (some (.inr (6, gZ 6))))) rfl (tq_b hqb hab) q_823 q_824 q_822 q_828 q_826 q_91 q_821 q_825 h9_J5_length_8abf5 ⟨Nat.le_of_ble_eq_true rfl, Nat.le_of_ble_eq_true rfl⟩ 0 0 rfl rfl ⟨Nat.le_of_ble_eq_true rfl, Nat.le_of_ble_eq_true rfl⟩ (Nat.le_of_ble_eq_true rfl) rfl dJ0_init_db425_10 ?_
  show gAt X 0 0 5 w sz (gUp (sbE gE0 cy b a t.length t) q (some (.inr (6, gZ 6)))) [(3, .ref a), (0, .ref q), (1, .ref b), (2, .null)] [.int (nI t.length)] 13
  refine g_istore (L' := [(4, .int (nI t.length)), (3, .ref a), (0, .ref q), (1, .ref b), (2, .null)]) hC dJ0_init_db425_13 (by decide) rfl ?_
  refine g_aload_n hC dJ0_init_db425_15 rfl 3 rfl ?_
  refine s_callV (ci := 5) (T := TJ4) (N := 4) (C := "java/lang/StringBuilder") hC [] (s_blat l D cy w sz b a t.length t hab) (sVw_none) (tq_sub hqb hqa) (tq_new hqb hqa) (E2 := (gUp (sbE gE0 cy b a t.length t) q (some (.inr (6, gZ 6))))) rfl (tq_b hqb hab) q_717 q_718 q_90 q_829 q_715 h9_J5_isLatin1_aae02 ⟨Nat.le_of_ble_eq_true rfl, Nat.le_of_ble_eq_true rfl⟩ 0 0 rfl rfl ⟨Nat.le_of_ble_eq_true rfl, Nat.le_of_ble_eq_true rfl⟩ (Nat.le_of_ble_eq_true rfl) rfl dJ0_init_db425_16 ?_
  show gAt X 0 0 5 w sz (gUp (sbE gE0 cy b a t.length t) q (some (.inr (6, gZ 6)))) [(4, .int (nI t.length)), (3, .ref a), (0, .ref q), (1, .ref b), (2, .null)] [.int 1] 19
  refine g_if_eq hC 41 dJ0_init_db425_19 (by decide) (fun h9 => absurd h9 (by decide)) (fun _ => ?_)
  refine g_aload_n hC dJ0_init_db425_22 rfl 2 rfl ?_
  refine g_iconst (v := 0) hC dJ0_init_db425_23 (by decide) ?_
  refine g_putEF hC (hNm rfl) 6 1 rfl (by decide) iJ0 tyJ0 tyJ0_ok nmJ0 q_s1772 rfl rfl (by decide) (by decide) (gUp_s _ _ _) dJ0_init_db425_24 ?_
  refine g_nm _ (gUp (sbE gE0 cy b a t.length t) q (some (.inr (6, updV (gZ 6) 1 (.int 0))))) w _ rfl (gUp_gUp _ _ _ _).symm rfl rfl ?_
  refine g_aload_n hC dJ0_init_db425_27 rfl 2 rfl ?_
  refine g_aload_n hC dJ0_init_db425_28 rfl 1 rfl ?_
  refine g_iconst (v := 0) hC dJ0_init_db425_29 (by decide) ?_
  refine g_iload hC dJ0_init_db425_30 0 rfl ?_
  refine s_callS hC [.ref a, .int 0, .int (nI t.length)] (s_cr l D cy w sz a t ha hn htb) (sVw_none) (ta_sub hqa) (ta_new hqa) (E2 := (gUp (gUp (sbE gE0 cy b a t.length t) q (some (.inr (6, updV (gZ 6) 1 (.int 0))))) sz (some (bYt cy t.length t))))  q_832 q_93 q_830 q_831 h9_J7_copyOfRange_39247 ⟨Nat.le_of_ble_eq_true rfl, Nat.le_of_ble_eq_true rfl⟩ 1 16 rfl rfl ⟨Nat.le_of_ble_eq_true rfl, Nat.le_of_ble_eq_true rfl⟩ (Nat.le_of_ble_eq_true rfl) rfl dJ0_init_db425_32 ?_
  show gAt X 1 16 5 w (sz + 1) (gUp (gUp (sbE gE0 cy b a t.length t) q (some (.inr (6, updV (gZ 6) 1 (.int 0))))) sz (some (bYt cy t.length t))) [(4, .int (nI t.length)), (3, .ref a), (0, .ref q), (1, .ref b), (2, .null)] [.ref sz, .ref q] 35
  have hqz : ¬ q = sz := by omega
  refine g_putEF hC (hNm rfl) 6 0 rfl (by decide) iJ0 tyJ0 tyJ0_ok nmJ0 q_s1773 rfl rfl rfl rfl ((gUp_n hqz).trans (gUp_s _ _ _)) dJ0_init_db425_35 ?_
  refine g_nm _ (gUp (gUp (sbE gE0 cy b a t.length t) q (some (.inr (6, stV sz)))) sz (some (bYt cy t.length t))) w _ rfl (tq_up hqz).symm rfl rfl ?_
  refine g_goto hC 97 dJ0_init_db425_38 (by decide) ?_
  exact s_vret hC hEn rfl (fun _ _ h => h) dJ0_init_db425_97
set_option maxHeartbeats 4000000 in
theorem s_ini1 (l : Launch) (D : va_G) (cy : Nat → ClassId) (w : FW) (sz : Nat) (q b a : Nat) (t : List Int32) (hab : ¬ b = a) (hq : q < sz) (hb : b < sz) (ha : a < sz) (hqb : ¬ q = b) (hqa : ¬ q = a) (hn : t.length < 16) (htb : tB t) : sSpec l D cy yJ0_init_81219 cJ0_init_81219 2 none { frames := 4, cells := 1, slots := 16, locals := 110 } [.ref q, .ref b] w sz (gUp (sbE gE0 cy b a t.length t) q (some (.inr (6, gZ 6)))) none none (sz + 1) (gUp (gUp (sbE gE0 cy b a t.length t) q (some (.inr (6, stV sz)))) sz (some (bYt cy t.length t))) := by
  refine s_begin (by decide +kernel) (Nat.le_of_ble_eq_true rfl) (fun X hC hNm hEn hS => ?_)
  show gAt X 0 0 2 w sz (gUp (sbE gE0 cy b a t.length t) q (some (.inr (6, gZ 6)))) [(0, .ref q), (1, .ref b)] [] 0
  refine g_aload_n hC dJ0_init_81219_0 rfl 0 rfl ?_
  refine g_aload_n hC dJ0_init_81219_1 rfl 1 rfl ?_
  refine g_null hC dJ0_init_81219_2 ?_
  refine s_callI hC [.ref b, .null] (s_ini2 l D cy w sz q b a t hab hq hb ha hqb hqa hn htb) (sVw_none) (fun _ _ h => h) (fun _ _ h => Or.inl h) (E2 := (gUp (gUp (sbE gE0 cy b a t.length t) q (some (.inr (6, stV sz)))) sz (some (bYt cy t.length t)))) rfl q_814 q_s144 q_812 q_813 h9_J0_init_db425 ⟨Nat.le_of_ble_eq_true rfl, Nat.le_of_ble_eq_true rfl⟩ 1 16 rfl rfl ⟨Nat.le_of_ble_eq_true rfl, Nat.le_of_ble_eq_true rfl⟩ (Nat.le_of_ble_eq_true rfl) rfl dJ0_init_81219_3 ?_
  show gAt X 1 16 2 w (sz + 1) (gUp (gUp (sbE gE0 cy b a t.length t) q (some (.inr (6, stV sz)))) sz (some (bYt cy t.length t))) [(0, .ref q), (1, .ref b)] [] 6
  exact s_vret hC hEn rfl (fun _ _ h => h) dJ0_init_81219_6
set_option maxHeartbeats 4000000 in
theorem s_toS (l : Launch) (D : va_G) (cy : Nat → ClassId) (w : FW) (sz : Nat) (b a : Nat) (t : List Int32) (hab : ¬ b = a) (hb : b < sz) (ha : a < sz) (hn : t.length < 16) (htb : tB t) : sSpec l D cy yJ4_toString_0e30d cJ4_toString_0e30d 1 (some (.object "java/lang/String")) { frames := 5, cells := 2, slots := 20, locals := 131 } [.ref b] w sz (sbE gE0 cy b a t.length t) none (some (.ref sz)) (sz + 2) (gUp (gUp (sbE gE0 cy b a t.length t) sz (some (.inr (6, stV (sz + 1))))) (sz + 1) (some (bYt cy t.length t))) := by
  refine s_begin (by decide +kernel) (Nat.le_of_ble_eq_true rfl) (fun X hC hNm hEn hS => ?_)
  show gAt X 0 0 1 w sz (sbE gE0 cy b a t.length t) [(0, .ref b)] [] 0
  have hqb : ¬ sz = b := by omega
  have hqa : ¬ sz = a := by omega
  refine g_new hC 6 rfl iJ0 tyJ0 tyJ0_ok q_808 q_390 q_s144 dfJ0 ⟨Nat.le_of_ble_eq_true rfl, Nat.le_of_ble_eq_true rfl⟩ dJ4_toString_0e30d_0 (fun _ _ => ?_)
  refine g_dup hC dJ4_toString_0e30d_3 rfl ?_
  refine g_aload_n hC dJ4_toString_0e30d_4 rfl 0 rfl ?_
  refine s_callI hC [.ref b] (s_ini1 l D cy w (sz + 1) sz b a t hab (by omega) (by omega) (by omega) hqb hqa hn htb) (sVw_none) (fun _ _ h => h) (fun _ _ h => Or.inl h) (E2 := (gUp (gUp (sbE gE0 cy b a t.length t) sz (some (.inr (6, stV (sz + 1))))) (sz + 1) (some (bYt cy t.length t)))) rfl q_811 q_s144 q_809 q_810 h9_J0_init_81219 ⟨Nat.le_of_ble_eq_true rfl, Nat.le_of_ble_eq_true rfl⟩ 1 16 rfl rfl ⟨Nat.le_of_ble_eq_true rfl, Nat.le_of_ble_eq_true rfl⟩ (Nat.le_of_ble_eq_true rfl) rfl dJ4_toString_0e30d_5 ?_
  show gAt X 2 20 1 w (sz + 2) (gUp (gUp (sbE gE0 cy b a t.length t) sz (some (.inr (6, stV (sz + 1))))) (sz + 1) (some (bYt cy t.length t))) [(0, .ref b)] [.ref sz] 8
  exact s_aret hC (Or.inl ⟨_, rfl⟩) hEn rfl (fun _ _ h => h) dJ4_toString_0e30d_8
theorem sbV_eq (v : Nat) : updV (updV (gZ 5) 0 (.ref v)) 1 (.int 0) = sbV v 0 := by
  funext k
  rcases k with _ | _ | _ | _ | k
  · rfl
  · rfl
  · rfl
  · rfl
  · show (if k + 4 = 1 then _ else if k + 4 = 0 then _ else gZ 5 (k + 4)) = _
    rw [if_neg (by omega), if_neg (by omega)]
    rfl
set_option maxHeartbeats 4000000 in
theorem s_new5 (l : Launch) (D : va_G) (cy : Nat → ClassId) (w : FW) (sz : Nat) (b : Nat) (hb : b < sz) : sSpec l D cy yJ5_init_d00df cJ5_init_d00df 2 none { frames := 1, cells := 1, slots := 16, locals := 20 } [.ref b, .int (nI 16)] w sz (gUp gE0 b (some (.inr (5, gZ 5)))) none none (sz + 1) (sbE gE0 cy b sz 0 []) := by
  refine s_begin (by decide +kernel) (Nat.le_of_ble_eq_true rfl) (fun X hC hNm hEn hS => ?_)
  show gAt X 0 0 2 w sz (gUp gE0 b (some (.inr (5, gZ 5)))) [(0, .ref b), (1, .int (nI 16))] [] 0
  have hbz : ¬ b = sz := by omega
  refine g_aload_n hC dJ5_init_d00df_0 rfl 0 rfl ?_
  refine g_objInit hC q_647 q_106 q_107 ⟨Nat.le_of_ble_eq_true rfl, Nat.le_of_ble_eq_true rfl⟩ (Nat.le_of_ble_eq_true rfl) dJ5_init_d00df_1 ?_
  refine g_gCS hC q_648 dJ5_init_d00df_4 ?_
  refine g_if_eq hC 25 dJ5_init_d00df_7 (by decide) (fun h9 => absurd h9 (by decide)) (fun _ => ?_)
  refine g_aload_n hC dJ5_init_d00df_10 rfl 0 rfl ?_
  refine g_iload_n hC dJ5_init_d00df_11 rfl 1 rfl ?_
  refine g_newaB0 hC q_391 (by omega) ⟨Nat.le_of_ble_eq_true rfl, Nat.le_of_ble_eq_true rfl⟩ dJ5_init_d00df_12 (fun _ _ => ?_)
  refine g_putE hC 5 0 rfl (by decide) iJ4 tyJ4 tyJ4_ok nmJ4 q_656 rfl rfl rfl ((gUp_n hbz).trans (gUp_s _ _ _)) dJ5_init_d00df_14 ?_
  refine g_nm _ (gUp (gUp gE0 b (some (.inr (5, updV (gZ 5) 0 (.ref sz))))) sz (some (bYt cy 16 []))) w _ rfl (gUp_sw hbz _ _ _ _).symm rfl rfl ?_
  refine g_aload_n hC dJ5_init_d00df_17 rfl 0 rfl ?_
  refine g_iconst (v := 0) hC dJ5_init_d00df_18 (by decide) ?_
  refine g_putE hC 5 1 rfl (by decide) iJ4 tyJ4 tyJ4_ok nmJ4 q_657 rfl (by decide) (by decide) ((gUp_n hbz).trans (gUp_s _ _ _)) dJ5_init_d00df_19 ?_
  refine g_nm _ (sbE gE0 cy b sz 0 []) w _ rfl (by rw [gUp_sw hbz, sbV_eq]; rfl) rfl rfl ?_
  refine g_goto hC 38 dJ5_init_d00df_22 (by decide) ?_
  exact s_vret hC hEn rfl (fun _ _ h => h) dJ5_init_d00df_38
set_option maxHeartbeats 4000000 in
theorem s_new4 (l : Launch) (D : va_G) (cy : Nat → ClassId) (w : FW) (sz : Nat) (b : Nat) (hb : b < sz) : sSpec l D cy yJ4_init_da8c8 cJ4_init_da8c8 1 none { frames := 2, cells := 1, slots := 16, locals := 41 } [.ref b] w sz (gUp gE0 b (some (.inr (5, gZ 5)))) none none (sz + 1) (sbE gE0 cy b sz 0 []) := by
  refine s_begin (by decide +kernel) (Nat.le_of_ble_eq_true rfl) (fun X hC hNm hEn hS => ?_)
  show gAt X 0 0 1 w sz (gUp gE0 b (some (.inr (5, gZ 5)))) [(0, .ref b)] [] 0
  refine g_aload_n hC dJ4_init_da8c8_0 rfl 0 rfl ?_
  refine g_bipush (v := (nI 16)) hC dJ4_init_da8c8_1 (by decide) ?_
  refine s_callI hC [.int (nI 16)] (s_new5 l D cy w sz b hb) (sVw_none) (fun _ _ h => h) (fun _ _ h => Or.inl h) (E2 := (sbE gE0 cy b sz 0 [])) rfl q_646 q_90 q_644 q_645 h9_J5_init_d00df ⟨Nat.le_of_ble_eq_true rfl, Nat.le_of_ble_eq_true rfl⟩ 1 16 rfl rfl ⟨Nat.le_of_ble_eq_true rfl, Nat.le_of_ble_eq_true rfl⟩ (Nat.le_of_ble_eq_true rfl) rfl dJ4_init_da8c8_3 ?_
  show gAt X 1 16 1 w (sz + 1) (sbE gE0 cy b sz 0 []) [(0, .ref b)] [] 6
  exact s_vret hC hEn rfl (fun _ _ h => h) dJ4_init_da8c8_6
