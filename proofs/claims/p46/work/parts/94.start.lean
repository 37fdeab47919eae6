/-! The law from its entry -/
def fStt (i : Nat) : Term := Term.string (fStrL.getD i ("", 0, "")).1 (fStrL.getD i ("", 0, "")).2.1
theorem st_exact : ∀ i, i < 57 → Cond.exactly (fStt i) "java/lang/String" ∈ flatC (Jvm.Cond.and given_1 narrow_1) := by decide +kernel
theorem st_coder : ∀ i, i < 33 → Cond.eq (.field (fStt i) "java/lang/String" "coder" "B") (.int 0) ∈ flatC (Jvm.Cond.and given_1 narrow_1) := by decide +kernel
theorem st_arr : ∀ i, i < 33 → Cond.arrayOf (.field (fStt i) "java/lang/String" "value" "[B") .byte ∈ flatC (Jvm.Cond.and given_1 narrow_1) := by decide +kernel
theorem st_len : ∀ i, i < 33 → Cond.eq (.length (.field (fStt i) "java/lang/String" "value" "[B")) (.int (Int32.ofNat (fByt.getD i []).length)) ∈ flatC (Jvm.Cond.and given_1 narrow_1) := by decide +kernel
def stP (i : Nat) : Nat := [353, 754, 666, 678, 687, 696, 702, 709, 716, 723, 731, 737, 743, 749, 506, 514, 522, 528, 536, 546, 553, 558, 563, 568, 900, 906, 911, 917, 922, 927, 932, 937, 0].getD i 0
theorem st_el0 : (List.range 33).all (fun i => decide (((flatC (Jvm.Cond.and given_1 narrow_1)).drop (stP i)).take (fByt.getD i []).length = (List.range (fByt.getD i []).length).map (fun j => Cond.eq (.elem (.field (fStt i) "java/lang/String" "value" "[B") (.int (Int32.ofNat j))) (.int ((fByt.getD i []).getD j 0))))) = true := by decide +kernel
theorem st_el : ∀ i, i < 33 → ∀ j, j < (fByt.getD i []).length → Cond.eq (.elem (.field (fStt i) "java/lang/String" "value" "[B") (.int (Int32.ofNat j))) (.int ((fByt.getD i []).getD j 0)) ∈ flatC (Jvm.Cond.and given_1 narrow_1) := by
  intro i hi j hj
  have h := of_decide_eq_true (List.all_eq_true.mp st_el0 i (List.mem_range.mpr hi))
  have h2 : Cond.eq (.elem (.field (fStt i) "java/lang/String" "value" "[B") (.int (Int32.ofNat j))) (.int ((fByt.getD i []).getD j 0)) ∈ (List.range (fByt.getD i []).length).map (fun j => Cond.eq (.elem (.field (fStt i) "java/lang/String" "value" "[B") (.int (Int32.ofNat j))) (.int ((fByt.getD i []).getD j 0))) := List.mem_map.mpr ⟨j, List.mem_range.mpr hj, rfl⟩
  rw [← h] at h2
  exact List.mem_of_mem_drop (List.mem_of_mem_take h2)
def dgT : Term := .static "java/lang/Integer" "DigitOnes" "[B"
theorem st_dg0 : decide (((flatC (Jvm.Cond.and given_1 narrow_1)).drop 14).take 100 = (List.range 100).map (fun j => Cond.eq (.elem dgT (.int (Int32.ofNat j))) (.int (nI (48 + j % 10))))) = true := by decide +kernel
theorem st_dg : ∀ j, j < 100 → Cond.eq (.elem dgT (.int (Int32.ofNat j))) (.int (nI (48 + j % 10))) ∈ flatC (Jvm.Cond.and given_1 narrow_1) := by
  intro j hj
  have h := of_decide_eq_true st_dg0
  have h2 : Cond.eq (.elem dgT (.int (Int32.ofNat j))) (.int (nI (48 + j % 10))) ∈ (List.range 100).map (fun j => Cond.eq (.elem dgT (.int (Int32.ofNat j))) (.int (nI (48 + j % 10)))) := List.mem_map.mpr ⟨j, List.mem_range.mpr hj, rfl⟩
  rw [← h] at h2
  exact List.mem_of_mem_drop (List.mem_of_mem_take h2)
theorem st_dga : Cond.arrayOf dgT .byte ∈ flatC (Jvm.Cond.and given_1 narrow_1) := by decide +kernel
theorem st_dgl : Cond.eq (.length dgT) (.int (Int32.ofNat 100)) ∈ flatC (Jvm.Cond.and given_1 narrow_1) := by decide +kernel
theorem st_digits {args : Array Value} {s : State} {A : Nat → Prop} (hg : ∀ w ∈ flatC (Jvm.Cond.and given_1 narrow_1), w.before args s = true) (hA : ∀ a : Nat, a < s.heap.size → ¬ A a) : ∃ t : Nat, dgT.eval args s none [] s = some (.ref t) ∧ va_T .byte t 100 fDg A s s.heap :=
  va_Tof (N := 100) (f := fDg) (A := A) (by decide) (hg _ st_dga) (va_eqt (hg _ st_dgl)) (fun j hj => va_eqt (hg _ (st_dg j hj))) hA
theorem st_ref : ∀ i, i < 57 → Cond.stringRef (fStrL.getD i ("", 0, "")).1 (fStrL.getD i ("", 0, "")).2.1 (fStrL.getD i ("", 0, "")).2.2 ∈ lw_tbl := by decide +kernel
theorem st_nc : ∀ q ∈ ncL, Cond.not (.castable q.1 q.2) ∈ flatC (Jvm.Cond.and given_1 narrow_1) := by decide +kernel
theorem st_strings {args : Array Value} {s : State} {A : Nat → Prop} (hg : ∀ w ∈ flatC (Jvm.Cond.and given_1 narrow_1), w.before args s = true) (hA : ∀ a : Nat, a < s.heap.size → ¬ A a) : ∃ ad : Nat → Nat × Nat, (∀ i, i < 57 → (fStt i).eval args s none [] s = some (.ref (ad i).1)) ∧
    ∀ i, i < 33 → va_O "java/lang/String" (ad i).1 A s s.heap ∧ va_OF "java/lang/String" "coder" "B" (.int 0) (ad i).1 A s s.heap ∧ va_OF "java/lang/String" "value" "[B" (.ref (ad i).2) (ad i).1 A s s.heap ∧ va_T .byte (ad i).2 (fByt.getD i []).length (fun j => .int ((fByt.getD i []).getD j 0)) A s s.heap := by
  have h0 : ∀ i : Nat, ∃ q : Nat × Nat, (i < 57 → (fStt i).eval args s none [] s = some (.ref q.1)) ∧ (i < 33 → va_O "java/lang/String" q.1 A s s.heap ∧ va_OF "java/lang/String" "coder" "B" (.int 0) q.1 A s s.heap ∧ va_OF "java/lang/String" "value" "[B" (.ref q.2) q.1 A s s.heap ∧ va_T .byte q.2 (fByt.getD i []).length (fun j => .int ((fByt.getD i []).getD j 0)) A s s.heap) := by
    intro i
    by_cases h1 : i < 57
    · obtain ⟨a, c, cA, kA, q1, q2, q3, q4, q5, q6, -⟩ := Cond.exactly_spec (args := args) (first := s) (o := none) (s := s) (idx := []) (t := fStt i) (cls := "java/lang/String") (hg _ (st_exact i h1))
      by_cases h2 : i < 33
      · obtain ⟨t, ht, hT⟩ := va_Tof (N := (fByt.getD i []).length) (f := fun j => .int ((fByt.getD i []).getD j 0)) (A := A) (fByt_ok i h2).1 (hg _ (st_arr i h2)) (va_eqt (hg _ (st_len i h2))) (fun j hj => va_eqt (hg _ (st_el i h2 j hj))) hA
        exact ⟨(a, t), fun _ => q1, fun _ => ⟨⟨cA, q3, q5, by rw [q6]; exact q2, hA a (Array.getElem?_eq_some_iff.mp q3).1⟩, vk_OFof q1 (va_eqt (hg _ (st_coder i h2))) hA, vk_OFof q1 ht hA, hT⟩⟩
      · exact ⟨(a, 0), fun _ => q1, fun h => absurd h h2⟩
    · exact ⟨(0, 0), fun h => absurd h h1, fun h => by omega⟩
  obtain ⟨ad, had⟩ := Classical.axiomOfChoice h0
  exact ⟨ad, fun i hi => (had i).1 hi, fun i hi => (had i).2 hi⟩
theorem st_arrC {args : Array Value} {s : State} {ty : FieldType} (h : (Cond.arrayClass ty).before args s = true) (hp : ∀ C : String, ty ≠ .object C) : ∃ cA : ClassId, ArrOfT s cA ty ∧ va_RA s cA ty := by
  obtain ⟨c, k, comp, h1, h2, h3⟩ := Cond.arrayClass_spec (args := args) (first := s) (o := none) (idx := []) h
  refine ⟨c, fun n z => ⟨fun k h => (by cases h), k, h2, comp, h3⟩, ?_⟩
  cases ty <;> first | exact h1 | exact absurd rfl (hp _)
theorem st_arrO {args : Array Value} {s : State} {C : String} (h : (Cond.arrayOver (.object C)).before args s = true) : ∃ cA : ClassId, ArrOfT s cA (.object C) ∧ va_RA s cA (.object C) := by
  obtain ⟨comp, c, k, h1, h2, h3, h4, h5⟩ := Cond.arrayOver_spec (args := args) (first := s) (o := none) (idx := []) h
  exact ⟨c, fun n z => ⟨fun k h => (by cases h), k, h3, comp, h4⟩, k, comp, h3, h4, h1, h5⟩
theorem fNst_of {w : Cond} {args : Array Value} {s : State} (hg : fNst w = true) (h : w.before args s = true) : va_Nw w s := by
  by_cases ho : ∃ C : String, w = .arrayOver (.object C)
  · obtain ⟨C, rfl⟩ := ho
    exact va_AO.of (C := C) h
  · have ht : w.onTables = true := by
      cases w <;> first | rfl | (rename_i ty; cases ty <;> first | exact absurd ⟨_, rfl⟩ ho | (simp [fNst] at hg)) | (simp [fNst] at hg)
    exact va_tabs ht rfl h
theorem st_env {s : State} {b : Nat} (hts : ∀ w ∈ lw_tbl, w.before #[Value.ref b] s = true) (hg : ∀ w ∈ flatC (Jvm.Cond.and given_1 narrow_1), w.before #[Value.ref b] s = true) : ∃ (D : va_G) (cy : Nat → ClassId), fEnv D cy (fun q => s.heap.size ≤ q) s := by
  have hA : ∀ a : Nat, a < s.heap.size → ¬ (fun q : Nat => s.heap.size ≤ q) a := fun a h => Nat.not_le.mpr h
  have tb : ∀ {w : Cond}, w ∈ lwA → w.before #[Value.ref b] s = true := fun h => hts _ (List.mem_filter.mp h).1
  have hin : ∀ {C : String} {T : u_T} {N : Nat}, (∀ w ∈ u_ws C T N, w ∈ lwA) → ∀ w ∈ u_ws C T N, w ∈ lw_tbl := fun h w hw => (List.mem_filter.mp (h w hw)).1
  obtain ⟨c0, i0, k0⟩ := u_known (C := RX0) (T := TX0) (N := 5) (n := 5) hts (hin iX0) (tb q_141)
  obtain ⟨c1, i1, k1⟩ := u_known (C := RX1) (T := TX1) (N := 10) (n := 10) hts (hin iX1) (tb q_109)
  obtain ⟨c2, i2, k2⟩ := u_known (C := RX2) (T := TX2) (N := 8) (n := 8) hts (hin iX2) (tb q_133)
  obtain ⟨c3, i3, k3⟩ := u_known (C := RX3) (T := TX3) (N := 2) (n := 2) hts (hin iX3) (tb q_117)
  obtain ⟨c4, i4, k4⟩ := u_known (C := RX4) (T := TX4) (N := 15) (n := 15) hts (hin iX4) (tb q_101)
  obtain ⟨c5, i5, k5⟩ := u_known (C := RJ4) (T := TJ4) (N := 4) (n := 4) hts (hin iJ4) (tb q_640)
  obtain ⟨c6, i6, k6⟩ := u_known (C := RJ0) (T := TJ0) (N := 4) (n := 4) hts (hin iJ0) (tb q_390)
  obtain ⟨y0, ya0, yb0⟩ := st_arrC (ty := .char) (tb q_132) (fun C h => by cases h)
  obtain ⟨y1, ya1, yb1⟩ := st_arrC (ty := .int) (tb q_173) (fun C h => by cases h)
  obtain ⟨y2, ya2, yb2⟩ := st_arrC (ty := .boolean) (tb q_174) (fun C h => by cases h)
  obtain ⟨y3, ya3, yb3⟩ := st_arrO (C := RX1) (hts _ (List.mem_filter.mp q_257).1)
  obtain ⟨y4, ya4, yb4⟩ := st_arrO (C := RX2) (hts _ (List.mem_filter.mp q_115).1)
  obtain ⟨y5, ya5, yb5⟩ := st_arrC (ty := .long) (tb q_1436) (fun C h => by cases h)
  obtain ⟨y6, ya6, yb6⟩ := st_arrC (ty := .byte) (tb q_391) (fun C h => by cases h)
  obtain ⟨y7, ya7, yb7⟩ := st_arrO (C := "java/lang/String") (hts _ (List.mem_filter.mp q_632).1)
  obtain ⟨ad, hs1, hs2⟩ := st_strings hg hA
  obtain ⟨dg, hd1, hd2⟩ := st_digits hg hA
  refine ⟨(fun k => match k with | 0 => c0 | 1 => c1 | 2 => c2 | 3 => c3 | 4 => c4 | 5 => c5 | _ => c6, fun k => match k with | 0 => i0 | 1 => i1 | 2 => i2 | 3 => i3 | 4 => i4 | 5 => i5 | 6 => i6 | 97 => fun _ => dg | 98 => fun i => (ad i).2 | _ => fun i => (ad i).1), (fun k => match k with | 0 => y0 | 1 => y1 | 2 => y2 | 3 => y3 | 4 => y4 | 5 => y5 | 6 => y6 | _ => y7), ⟨fun k q hq => ?_, fun k q hq => ?_⟩, fun w hw => fNst_of (List.mem_filter.mp hw).2 (hts w (List.mem_filter.mp hw).1), fun i q hq => ?_, fun i hi => ?_, ?_, ?_, ?_, ?_, ?_, ?_⟩
  · match k, hq with
    | 0, hq => cases hq; exact k0
    | 1, hq => cases hq; exact k1
    | 2, hq => cases hq; exact k2
    | 3, hq => cases hq; exact k3
    | 4, hq => cases hq; exact k4
    | 5, hq => cases hq; exact k5
    | 6, hq => cases hq; exact k6
    | k + 7, hq => simp [fCl] at hq
  · match k, hq with
    | 0, hq => cases hq; exact ⟨ya0, yb0⟩
    | 1, hq => cases hq; exact ⟨ya1, yb1⟩
    | 2, hq => cases hq; exact ⟨ya2, yb2⟩
    | 3, hq => cases hq; exact ⟨ya3, yb3⟩
    | 4, hq => cases hq; exact ⟨ya4, yb4⟩
    | 5, hq => cases hq; exact ⟨ya5, yb5⟩
    | 6, hq => cases hq; exact ⟨ya6, yb6⟩
    | 7, hq => cases hq; exact ⟨ya7, yb7⟩
    | k + 8, hq => simp [ftys] at hq
  · have hi : i < 57 := (List.getElem?_eq_some_iff.mp hq).1
    have e : fStrL.getD i ("", 0, "") = q := by rw [List.getD_eq_getElem?_getD, hq]; rfl
    have h1 := hts _ (st_ref i hi)
    have h2 := hs1 i hi
    unfold fStt at h2
    rw [e] at h1 h2
    exact vk_R.of h1 h2
  · rw [fBy_l _ hi]
    exact hs2 i hi
  · exact vx_Zqof (hts _ (List.mem_of_getElem? (i := 334) (by decide +kernel))) (tb q_78) (hg _ (by decide +kernel)) hA
  · exact vx_Zqof (hts _ (List.mem_of_getElem? (i := 336) (by decide +kernel))) (tb q_78) (hg _ (by decide +kernel)) hA
  · exact va_Zof (hts _ (List.mem_of_getElem? (i := 466) (by decide +kernel))) (tb q_84) (va_eqi (hg _ (by decide +kernel))) hA
  · exact va_Zqof (hts _ (List.mem_of_getElem? (i := 474) (by decide +kernel))) (tb q_87) (hg _ (by decide +kernel)) hA
  · exact va_Zof (hts _ (List.mem_of_getElem? (i := 791) (by decide +kernel))) (tb q_96) hd1 hA
  · exact hd2
set_option maxHeartbeats 4000000 in
/-- YOUR PART: from the entry, for every script of at most 260 ints, the law comes to its end with true -/
theorem whole_start {p : Program} {e : Env} {s : State} {m : MethodId} {below : List Frame} {meth : Method} {c : Code} (l : Launch) (hflags : l.flags = flags0) {b L : Nat} {xs : Nat → Int32} (hL0 : L ≤ 260) (C0 : lw_At p s m meth c b L xs) : W p l e room_1 s m #[Value.ref b] below meth c s.heap [] 0 0 (lw_Z below #[Value.ref b] s) (entryFrame m ([Value.ref b] : List Value).toArray 18) := by
  obtain ⟨hx, hb, hr, hml, hown, hts, hX, hbl, hlocks, hgv⟩ := id C0
  have hst : l.stackTraces = false := by
    unfold Launch.stackTraces
    rw [hflags]
    rfl
  have hg := flat_of_before _ hgv
  obtain ⟨D, cy, hE⟩ := st_env hts hg
  have hA : ∀ q : Nat, s.heap.size ≤ q → (fun q : Nat => s.heap.size ≤ q) q := fun _ h => h
  have hbA : ¬ (fun q : Nat => s.heap.size ≤ q) b := Nat.not_le.mpr hbl
  have hl := lv_entry ([.ref b]) (n := 18) (Nat.le_of_ble_eq_true rfl)
  rw [lg_entry_eq]
  obtain ⟨X, hXe⟩ : ∃ X : FX, X = (p, l, e, room_1, s, m, #[Value.ref b], below, meth, c, lw_Z below #[Value.ref b] s, D, cy, fun q => s.heap.size ≤ q) := ⟨_, rfl⟩
  have hC : fOK X cL_law 18 RL room_1 l D cy := by
    rw [hXe]
    exact ⟨hx, hb, hml, hown, fun w hw => hts w (List.mem_filter.mp hw).1, hE, hA, rfl, rfl, rfl, rfl⟩
  have hL : lOK X gE0 (some (b, L, xs)) := by
    rw [hXe]
    refine ⟨hst, fun q hq => va_Nc.of (hg _ (st_nc q hq)), fun a x h => (nomatch h), fun q hq => ?_⟩
    cases hq
    exact ⟨hbA, hbl, hX⟩
  have hend : ∀ (y : Nat) (LL : List (Nat × Value)) (h : Nat) (w : FW) (fs : Nat → Int64), gAt X 795604 6705037 18 w h (smE cy y fs) LL [.int 1] 370 := by
    intro y LL h w fs
    rw [hXe]
    intro H locs ls hz h1 h2 h3 h4
    refine va_forget (fun q hq => h3.2.2 q hq) ?_
    exact lw_ret (d0 := s.drawn) (Drawn.sameBut.refl s.drawn lw_cs) hx hb hr hlocks dL_law_370
  suffices hgo : gAt X 0 0 18 w0 s.heap.size gE0 [(0, .ref b)] [] 0 by
    rw [hXe] at hgo
    exact hgo s.heap [] _ ⟨rfl, fun a x hx => by cases hx⟩ (FH_0 D cy _) (fun q h => absurd rfl h) va_S.rf hl
  generalize s.heap.size = h0
  refine g_new hC 4 rfl iX4 tyX4 tyX4_ok q_100 q_101 q_73 dfX4 ⟨Nat.le_of_ble_eq_true rfl, Nat.le_of_ble_eq_true rfl⟩ dL_law_0 (fun hw9 he9 => ?_)
  refine g_dup hC dL_law_3 rfl ?_
  refine g_ctor hC (c_X4_init l D cy) rfl q_104 q_73 q_102 q_103 h9_X4_init ⟨Nat.le_of_ble_eq_true rfl, Nat.le_of_ble_eq_true rfl⟩ ⟨Nat.le_of_ble_eq_true rfl, Nat.le_of_ble_eq_true rfl⟩ (Nat.le_of_ble_eq_true rfl) (gUp_s _ _ _) (fun q h5 h6 => (WC_off h6 (by omega)).1) dL_law_4 ?_
  refine g_nm (h0 + 512) gE0 (wI h0) _ (by omega) (gUp_back _ rfl).symm rfl rfl ?_
  refine g_astore_n (L' := [(1, .ref h0), (0, .ref b)]) hC dL_law_7 rfl (by decide) rfl ?_
  refine g_bipush (v := 60) hC dL_law_8 (by decide) ?_
  refine g_newaJ (N' := 60) hC q_1436 (by decide) (by decide) (by decide) ⟨Nat.le_of_ble_eq_true rfl, Nat.le_of_ble_eq_true rfl⟩ dL_law_10 (fun _ _ => ?_)
  refine g_astore_n (L' := [(2, .ref (h0 + 512)), (1, .ref h0), (0, .ref b)]) hC dL_law_12 rfl (by decide) rfl ?_
  refine g_iconst (v := (nI 0)) hC dL_law_13 (by decide) ?_
  refine g_istore_n (L' := [(3, .int (nI 0)), (2, .ref (h0 + 512)), (1, .ref h0), (0, .ref b)]) hC dL_law_14 rfl (by decide) rfl ?_
  refine g_nm (h0 + 513) (smE cy (h0 + 512) (fun _ => 0)) (wI h0) _ rfl rfl rfl rfl ?_
  refine g_aload_n hC dL_law_15 rfl 1 rfl ?_
  refine g_iload_n hC dL_law_16 rfl 0 rfl ?_
  refine g_aload_n hC dL_law_17 rfl 2 rfl ?_
  refine g_callLk hC hL [.ref h0] (c_L_sum l D cy h0 (wI h0) (sumA A0) (e_sum (wI_CR h0).X (wI_CR h0).2.2.1)) (Or.inl rfl) (fun _ _ h => nomatch h) q_1187 q_72 q_1185 q_1186 h9_L_sum ⟨Nat.le_of_ble_eq_true rfl, Nat.le_of_ble_eq_true rfl⟩ 706 4236 rfl rfl ⟨Nat.le_of_ble_eq_true rfl, Nat.le_of_ble_eq_true rfl⟩ (Nat.le_of_ble_eq_true rfl) rfl dL_law_18 (fun p1 _ _ => ?_)
  show gAt X (513 + 706) (2830 + 4236) 18 (wI h0) p1 (smE cy (h0 + 512) (fun _ => 0)) [(3, .int (nI 0)), (2, .ref (h0 + 512)), (1, .ref h0), (0, .ref b)] [.long (sumA A0), .int (nI 0), .ref (h0 + 512)] 21
  refine g_lastS hC (m := 0) (by omega) dL_law_21 ?_
  refine g_iconst (v := (nI (6 * 0))) hC dL_law_22 (by decide) ?_
  refine g_istore (L' := [(4, .int (nI (6 * 0))), (3, .int (nI 0)), (2, .ref (h0 + 512)), (1, .ref h0), (0, .ref b)]) hC dL_law_23 (by decide) rfl ?_
  refine g_iconst (v := (nI 0)) hC dL_law_25 (by decide) ?_
  refine g_istore (L' := [(5, .int (nI 0)), (4, .int (nI (6 * 0))), (3, .int (nI 0)), (2, .ref (h0 + 512)), (1, .ref h0), (0, .ref b)]) hC dL_law_26 (by decide) rfl ?_
  refine g_widen (k' := 1300 + 4180 * 0) (s' := 10000 + 25110 * 0) (Nat.le_of_ble_eq_true rfl) (Nat.le_of_ble_eq_true rfl) ?_
  exact law_loop hC hL (by omega) (fun h2 w2 made2 fs2 => hend _ _ h2 w2 fs2) 46 0 _ 0 (wI h0) _ rfl ⟨A0, 0, A0, 0, A0, wI_CR h0, IV_0, DB_0, SS_0 (if_pos rfl), wI_8 h0, Nat.le_refl 0⟩
