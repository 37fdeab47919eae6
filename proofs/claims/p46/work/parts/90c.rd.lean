theorem q_312 : Cond.constant RL 7 (40503 : Int32) ∈ lwA := mA 312 (by decide +kernel) rfl
theorem q_311 : Cond.code yL_cell cL_cell 2 (some .int) ∈ lwA := mA 311 (by decide +kernel) rfl
theorem q_309 : Cond.methodLink RL 8 yL_cell ∈ lwA := mA 309 (by decide +kernel) rfl
theorem q_310 : Cond.static yL_cell ∈ lwA := mA 310 (by decide +kernel) rfl
theorem q_867 : Cond.methodLink RL 159 yJ0_length_8abf5 ∈ lwA := mA 867 (by decide +kernel) rfl
theorem q_868 : Cond.methodLink RL 164 yJ0_charAt_5068e ∈ lwA := mA 868 (by decide +kernel) rfl
theorem q_880 : Cond.codeWith yL_read cL_read 2 (some .int) [(0, 4, 5, 20), (0, 4, 9, 22)] ∈ lwA := mA 880 (by decide +kernel) rfl
theorem q_878 : Cond.methodLink RL 170 yL_read ∈ lwA := mA 878 (by decide +kernel) rfl
theorem q_879 : Cond.static yL_read ∈ lwA := mA 879 (by decide +kernel) rfl
theorem q_871 : Cond.codeWith yL_append cL_append 3 (some .int) [(0, 5, 6, 20), (0, 5, 10, 123)] ∈ lwA := mA 871 (by decide +kernel) rfl
theorem q_869 : Cond.methodLink RL 167 yL_append ∈ lwA := mA 869 (by decide +kernel) rfl
theorem q_870 : Cond.static yL_append ∈ lwA := mA 870 (by decide +kernel) rfl
theorem dL_cell_0 : decode cL_cell 0 = .ok (.iload_n 1, 1) := by decide +kernel
theorem dL_cell_1 : decode cL_cell 1 = .ok (.aload_n 0, 1) := by decide +kernel
theorem dL_cell_2 : decode cL_cell 2 = .ok (.arraylength, 1) := by decide +kernel
theorem dL_cell_3 : decode cL_cell 3 = .ok (.if_icmp .ge 9, 3) := by decide +kernel
theorem dL_cell_6 : decode cL_cell 6 = .ok (.aload_n 0, 1) := by decide +kernel
theorem dL_cell_7 : decode cL_cell 7 = .ok (.iload_n 1, 1) := by decide +kernel
theorem dL_cell_8 : decode cL_cell 8 = .ok (.iaload, 1) := by decide +kernel
theorem dL_cell_9 : decode cL_cell 9 = .ok (.goto 7, 3) := by decide +kernel
theorem dL_cell_12 : decode cL_cell 12 = .ok (.ldc 7, 2) := by decide +kernel
theorem dL_cell_14 : decode cL_cell 14 = .ok (.iload_n 1, 1) := by decide +kernel
theorem dL_cell_15 : decode cL_cell 15 = .ok (.imul, 1) := by decide +kernel
theorem dL_cell_16 : decode cL_cell 16 = .ok (.ireturn, 1) := by decide +kernel
theorem dL_pick_0 : decode cL_pick 0 = .ok (.aload_n 0, 1) := by decide +kernel
theorem dL_pick_1 : decode cL_pick 1 = .ok (.iload_n 1, 1) := by decide +kernel
theorem dL_pick_2 : decode cL_pick 2 = .ok (.invokestatic 8, 3) := by decide +kernel
theorem dL_pick_5 : decode cL_pick 5 = .ok (.iconst 1, 1) := by decide +kernel
theorem dL_pick_6 : decode cL_pick 6 = .ok (.iushr, 1) := by decide +kernel
theorem dL_pick_7 : decode cL_pick 7 = .ok (.iload_n 2, 1) := by decide +kernel
theorem dL_pick_8 : decode cL_pick 8 = .ok (.irem, 1) := by decide +kernel
theorem dL_pick_9 : decode cL_pick 9 = .ok (.ireturn, 1) := by decide +kernel
theorem dL_reads_0 : decode cL_reads 0 = .ok (.iconst 0, 1) := by decide +kernel
theorem dL_reads_1 : decode cL_reads 1 = .ok (.istore_n 2, 1) := by decide +kernel
theorem dL_reads_2 : decode cL_reads 2 = .ok (.iload_n 2, 1) := by decide +kernel
theorem dL_reads_3 : decode cL_reads 3 = .ok (.aload_n 1, 1) := by decide +kernel
theorem dL_reads_4 : decode cL_reads 4 = .ok (.invokevirtual 159, 3) := by decide +kernel
theorem dL_reads_7 : decode cL_reads 7 = .ok (.if_icmp .ge 56, 3) := by decide +kernel
theorem dL_reads_10 : decode cL_reads 10 = .ok (.iconst 0, 1) := by decide +kernel
theorem dL_reads_11 : decode cL_reads 11 = .ok (.istore_n 3, 1) := by decide +kernel
theorem dL_reads_12 : decode cL_reads 12 = .ok (.iload_n 2, 1) := by decide +kernel
theorem dL_reads_13 : decode cL_reads 13 = .ok (.istore 4, 2) := by decide +kernel
theorem dL_reads_15 : decode cL_reads 15 = .ok (.iload 4, 2) := by decide +kernel
theorem dL_reads_17 : decode cL_reads 17 = .ok (.aload_n 1, 1) := by decide +kernel
theorem dL_reads_18 : decode cL_reads 18 = .ok (.invokevirtual 159, 3) := by decide +kernel
theorem dL_reads_21 : decode cL_reads 21 = .ok (.if_icmp .ge 29, 3) := by decide +kernel
theorem dL_reads_24 : decode cL_reads 24 = .ok (.iload 4, 2) := by decide +kernel
theorem dL_reads_26 : decode cL_reads 26 = .ok (.iload_n 2, 1) := by decide +kernel
theorem dL_reads_27 : decode cL_reads 27 = .ok (.iconst 4, 1) := by decide +kernel
theorem dL_reads_28 : decode cL_reads 28 = .ok (.iadd, 1) := by decide +kernel
theorem dL_reads_29 : decode cL_reads 29 = .ok (.if_icmp .ge 21, 3) := by decide +kernel
theorem dL_reads_32 : decode cL_reads 32 = .ok (.iload_n 3, 1) := by decide +kernel
theorem dL_reads_33 : decode cL_reads 33 = .ok (.bipush 8, 2) := by decide +kernel
theorem dL_reads_35 : decode cL_reads 35 = .ok (.ishl, 1) := by decide +kernel
theorem dL_reads_36 : decode cL_reads 36 = .ok (.aload_n 1, 1) := by decide +kernel
theorem dL_reads_37 : decode cL_reads 37 = .ok (.iload 4, 2) := by decide +kernel
theorem dL_reads_39 : decode cL_reads 39 = .ok (.invokevirtual 164, 3) := by decide +kernel
theorem dL_reads_42 : decode cL_reads 42 = .ok (.ior, 1) := by decide +kernel
theorem dL_reads_43 : decode cL_reads 43 = .ok (.istore_n 3, 1) := by decide +kernel
theorem dL_reads_44 : decode cL_reads 44 = .ok (.iinc 4 1, 3) := by decide +kernel
theorem dL_reads_47 : decode cL_reads 47 = .ok (.goto (-32), 3) := by decide +kernel
theorem dL_reads_50 : decode cL_reads 50 = .ok (.aload_n 0, 1) := by decide +kernel
theorem dL_reads_51 : decode cL_reads 51 = .ok (.iload_n 3, 1) := by decide +kernel
theorem dL_reads_52 : decode cL_reads 52 = .ok (.invokestatic 167, 3) := by decide +kernel
theorem dL_reads_55 : decode cL_reads 55 = .ok (.istore 4, 2) := by decide +kernel
theorem dL_reads_57 : decode cL_reads 57 = .ok (.iinc 2 4, 3) := by decide +kernel
theorem dL_reads_60 : decode cL_reads 60 = .ok (.goto (-58), 3) := by decide +kernel
theorem dL_reads_63 : decode cL_reads 63 = .ok (.aload_n 0, 1) := by decide +kernel
theorem dL_reads_64 : decode cL_reads 64 = .ok (.invokestatic 170, 3) := by decide +kernel
theorem dL_reads_67 : decode cL_reads 67 = .ok (.ireturn, 1) := by decide +kernel
theorem h9_L_cell : yL_cell.cls ≠ "java/lang/invoke/MethodHandle" ∧ yL_cell.cls ≠ "java/lang/invoke/VarHandle" ∧ (parseMethodDescriptor yL_cell.desc).map (fun d => d.parameters.length) = some 2 := by decide +kernel
/-! The law's cells, picks and texts -/
def lcell (f : Nat → Int32) (n : Nat) (i : Int32) : Int32 := if i < nI n then f i.toNatClampNeg else 40503 * i
def lpick (f : Nat → Int32) (n : Nat) (i m : Int32) : Int32 := frem (fushr (lcell f n i) 1) m
set_option maxHeartbeats 4000000 in
theorem c_L_cell (l : Launch) (D : va_G) (cy : Nat → ClassId) (w : FW) (sa n : Nat) (f : Nat → Int32) (i : Int32) (hi : ¬ i < 0) (hn : n < 2 ^ 31) : lSpec l D cy yL_cell (.code yL_cell cL_cell 2 (some .int)) { frames := 0, cells := 0, slots := 0, locals := 0 } [.ref sa, .int i] gE0 (some (sa, n, f)) w w (some (.int (lcell f n i))) := by
  refine l_begin (by decide +kernel) (Nat.le_of_ble_eq_true rfl) (fun X h hC hEn hL => ?_)
  show gAt X 0 0 2 w h gE0 [(0, .ref sa), (1, .int i)] [] 0
  refine g_iload_n hC dL_cell_0 rfl 1 rfl ?_
  refine g_aload_n hC dL_cell_1 rfl 0 rfl ?_
  refine g_alenR hC hL dL_cell_2 ?_
  refine g_icmp_ge hC 12 dL_cell_3 (by decide) (fun c => ?_) (fun c => ?_)
  · refine g_ldcI hC q_312 dL_cell_12 ?_
    refine g_iload_n hC dL_cell_14 rfl 1 rfl ?_
    refine g_imul hC dL_cell_15 ?_
    have e : lcell f n i = 40503 * i := if_neg (Int32.not_lt.mpr c)
    rw [← e]
    exact g_iret hC hEn (fSm.rf w) dL_cell_16
  · refine g_aload_n hC dL_cell_6 rfl 0 rfl ?_
    refine g_iload_n hC dL_cell_7 rfl 1 rfl ?_
    have hlt : i < nI n := Int32.not_le.mp c
    have hin : vp_in i n := by
      obtain ⟨j, hj, e⟩ := nI_of hi
      rw [e] at hlt ⊢
      exact nI_in ((nI_ltI hj hn).mp hlt) hn
    refine g_ialdR hC hL hin dL_cell_8 ?_
    refine g_goto hC 16 dL_cell_9 (by decide) ?_
    have e : lcell f n i = f i.toNatClampNeg := if_pos hlt
    rw [← e]
    exact g_iret hC hEn (fSm.rf w) dL_cell_16
set_option maxHeartbeats 4000000 in
theorem c_L_pick (l : Launch) (D : va_G) (cy : Nat → ClassId) (w : FW) (sa n : Nat) (f : Nat → Int32) (i m : Int32) (hi : ¬ i < 0) (hn : n < 2 ^ 31) (hm : ¬ m = 0) : lSpec l D cy yL_pick (.code yL_pick cL_pick 3 (some .int)) { frames := 1, cells := 0, slots := 0, locals := 21 } [.ref sa, .int i, .int m] gE0 (some (sa, n, f)) w w (some (.int (lpick f n i m))) := by
  refine l_begin (by decide +kernel) (Nat.le_of_ble_eq_true rfl) (fun X h hC hEn hL => ?_)
  show gAt X 0 0 3 w h gE0 [(0, .ref sa), (1, .int i), (2, .int m)] [] 0
  refine g_aload_n hC dL_pick_0 rfl 0 rfl ?_
  refine g_iload_n hC dL_pick_1 rfl 1 rfl ?_
  refine g_callLk hC hL [.ref sa, .int i] (c_L_cell l D cy w sa n f i hi hn) (Or.inr rfl) (fun _ _ h => nomatch h) q_311 q_72 q_309 q_310 h9_L_cell ⟨Nat.le_of_ble_eq_true rfl, Nat.le_of_ble_eq_true rfl⟩ 0 0 rfl rfl ⟨Nat.le_of_ble_eq_true rfl, Nat.le_of_ble_eq_true rfl⟩ (Nat.le_of_ble_eq_true rfl) rfl dL_pick_2 (fun h1 _ _ => ?_)
  show gAt X 0 0 3 w h1 gE0 [(0, .ref sa), (1, .int i), (2, .int m)] [.int (lcell f n i)] 5
  refine g_iconst (v := 1) hC dL_pick_5 (by decide) ?_
  refine g_iushr hC dL_pick_6 ?_
  refine g_iload_n hC dL_pick_7 rfl 2 rfl ?_
  refine g_irem hC dL_pick_8 hm ?_
  exact g_iret hC hEn (fSm.rf w) dL_pick_9
theorem shr1 (x : Int32) : ∃ a, a < 2 ^ 31 ∧ fushr x 1 = nI a := by
  have hl := x.toBitVec.isLt
  refine ⟨x.toBitVec.toNat / 2, by omega, ?_⟩
  apply Int32.toBitVec_inj.mp
  apply BitVec.eq_of_toNat_eq
  have h1 : x.toUInt32.toBitVec = x.toBitVec := rfl
  have h3 : (nI (x.toBitVec.toNat / 2)).toBitVec = BitVec.ofNat 32 (x.toBitVec.toNat / 2) := rfl
  have h4 : (fushr x 1).toBitVec = (x.toUInt32 >>> ((1 : Int32).toUInt32 &&& Int32.toUInt32 31)).toBitVec := rfl
  have hlt : ((1 : Int32).toUInt32 &&& Int32.toUInt32 31).toBitVec.toNat % 32 = 1 := by decide
  rw [h3, h4, UInt32.toBitVec_shiftRight, h1]
  simp only [BitVec.toNat_ushiftRight, BitVec.toNat_ofNat, BitVec.ushiftRight_eq', BitVec.toNat_umod]
  rw [show BitVec.toNat (32 : BitVec 32) = 32 from rfl, hlt, Nat.shiftRight_eq_div_pow, Nat.mod_eq_of_lt (by omega)]
theorem frem_n {a d : Nat} (ha : a < 2 ^ 31) (h0 : 0 < d) (hd : d < 2 ^ 31) : frem (nI a) (nI d) = nI (a % d) := by
  unfold frem
  exact pk_rem ha h0 hd
theorem lpick_lt (f : Nat → Int32) (n : Nat) (i : Int32) {m : Nat} (h0 : 0 < m) (hm : m < 2 ^ 31) : ∃ v, v < m ∧ lpick f n i (nI m) = nI v := by
  obtain ⟨a, h1, h2⟩ := shr1 (lcell f n i)
  refine ⟨a % m, Nat.mod_lt _ h0, ?_⟩
  unfold lpick
  rw [h2, frem_n h1 h0 hm]
/-- m letters from place k on, in one number -/
def pkN (t : List Int32) (k : Nat) : Nat → Int32
  | 0 => 0
  | m + 1 => (pkN t k m <<< (8 : Int32)) ||| t.getD (k + m) 0
/-- a text goes to the buffer by fours: c of them from place k on -/
def RDn (x : Nat) (t : List Int32) : Nat → Nat → FW → FW → Prop
  | 0, k, w, w' => t.length ≤ k ∧ w = w'
  | c + 1, k, w, w' => k < t.length ∧ ∃ r w1, F_L_append x (pkN t k (if t.length - k < 4 then t.length - k else 4)) w = some (r, w1) ∧ RDn x t c (k + 4) w1 w'
def stE (cy : Nat → ClassId) (q v : Nat) (t : List Int32) : gE := gUp (gUp gE0 q (some (.inr (6, stV v)))) v (some (bYt cy t.length t))
abbrev rmR : Room := { frames := 12, cells := 16, slots := 96, locals := 273 }
section RDM
variable {X : FX} {l : Launch} {D : va_G} {cy : Nat → ClassId} {cells slots h x q v : Nat} {w w0 w1 w' : FW} {t : List Int32} {E0 : gE} {sc : lScr} {r : Int32}
set_option maxHeartbeats 4000000 in
theorem rd_in (hC : fOK X cL_reads 5 RL rmR l D cy) (hS : sOK X (some (q, v, t))) (hl : t.length ≤ 60) (htb : tB t) (hcc : cells ≤ 16) (hss : slots ≤ 96) {k M : Nat} (hk : k < t.length) (hM : M = if t.length - k < 4 then t.length - k else 4)
    (K : gAt X cells slots 5 w h gE0 [(4, .int (nI (k + M))), (3, .int (pkN t k M)), (2, .int (nI k)), (1, .ref q), (0, .ref x)] [] 50) : ∀ d m, m + d = M → gAt X cells slots 5 w h gE0 [(4, .int (nI (k + m))), (3, .int (pkN t k m)), (2, .int (nI k)), (1, .ref q), (0, .ref x)] [] 15 := by
  have hok := tB_tOK htb (by omega)
  have hM4 : M ≤ 4 := by
    by_cases c : t.length - k < 4
    · rw [if_pos c] at hM
      omega
    · rw [if_neg c] at hM
      omega
  intro d
  induction d with
  | zero =>
    intro m hm
    have hmM : m = M := by omega
    refine g_iload hC dL_reads_15 0 rfl ?_
    refine g_aload_n hC dL_reads_17 rfl 3 rfl ?_
    refine s_callT hC [] (s_len l D cy w h q v t) (sVw_ok hC hS (fun _ h => absurd rfl h)) (fun _ _ h => nomatch h) (fun _ _ h => Or.inr ⟨rfl, h⟩) (E2 := gE0) q_s1183 q_s1184 q_s144 q_867 q_s1182 h9_J0_length_8abf5 ⟨Nat.le_of_ble_eq_true rfl, Nat.le_of_ble_eq_true rfl⟩ 0 0 rfl rfl ⟨hcc, hss⟩ (Nat.le_of_ble_eq_true rfl) rfl dL_reads_18 ?_
    show gAt X cells slots 5 w h gE0 [(4, .int (nI (k + m))), (3, .int (pkN t k m)), (2, .int (nI k)), (1, .ref q), (0, .ref x)] [.int (nI t.length), .int (nI (k + m))] 21
    refine g_icmp_ge hC 50 dL_reads_21 (by decide) (fun h9 => ?_) (fun h9 => ?_)
    · subst hmM
      exact K
    · have h8 : k + m < t.length := by
        have h7 := Int32.not_le.mp h9
        exact (nI_ltI (by omega) (by omega)).mp h7
      have h6 : M = 4 := by
        rw [hM]
        rw [hM] at hmM
        by_cases c : t.length - k < 4
        · rw [if_pos c] at hmM
          omega
        · exact if_neg c
      refine g_iload hC dL_reads_24 0 rfl ?_
      refine g_iload_n hC dL_reads_26 rfl 2 rfl ?_
      refine g_iconst (v := nI 4) hC dL_reads_27 (by decide) ?_
      refine g_iadd hC dL_reads_28 ?_
      rw [nI_add]
      refine g_icmp_ge hC 50 dL_reads_29 (by decide) (fun _ => ?_) (fun h5 => absurd (nI_le (by omega) (by omega)) h5)
      subst hmM
      exact K
  | succ d ih =>
    intro m hm
    have h8 : k + m < t.length := by
      by_cases c : t.length - k < 4
      · rw [if_pos c] at hM
        omega
      · rw [if_neg c] at hM
        omega
    have h7 : m < 4 := by
      by_cases c : t.length - k < 4
      · rw [if_pos c] at hM
        omega
      · rw [if_neg c] at hM
        omega
    refine g_iload hC dL_reads_15 0 rfl ?_
    refine g_aload_n hC dL_reads_17 rfl 3 rfl ?_
    refine s_callT hC [] (s_len l D cy w h q v t) (sVw_ok hC hS (fun _ h => absurd rfl h)) (fun _ _ h => nomatch h) (fun _ _ h => Or.inr ⟨rfl, h⟩) (E2 := gE0) q_s1183 q_s1184 q_s144 q_867 q_s1182 h9_J0_length_8abf5 ⟨Nat.le_of_ble_eq_true rfl, Nat.le_of_ble_eq_true rfl⟩ 0 0 rfl rfl ⟨hcc, hss⟩ (Nat.le_of_ble_eq_true rfl) rfl dL_reads_18 ?_
    show gAt X cells slots 5 w h gE0 [(4, .int (nI (k + m))), (3, .int (pkN t k m)), (2, .int (nI k)), (1, .ref q), (0, .ref x)] [.int (nI t.length), .int (nI (k + m))] 21
    refine g_icmp_ge hC 50 dL_reads_21 (by decide) (fun h9 => absurd h9 (nI_ge h8 (by omega))) (fun _ => ?_)
    refine g_iload hC dL_reads_24 0 rfl ?_
    refine g_iload_n hC dL_reads_26 rfl 2 rfl ?_
    refine g_iconst (v := nI 4) hC dL_reads_27 (by decide) ?_
    refine g_iadd hC dL_reads_28 ?_
    rw [nI_add]
    refine g_icmp_ge hC 50 dL_reads_29 (by decide) (fun h9 => absurd h9 (nI_ge (by omega) (by omega))) (fun _ => ?_)
    refine g_iload_n hC dL_reads_32 rfl 1 rfl ?_
    refine g_bipush (v := 8) hC dL_reads_33 (by decide) ?_
    refine g_ishl hC dL_reads_35 ?_
    rw [show ((8 : Int32) &&& 31) = 8 from by decide]
    refine g_aload_n hC dL_reads_36 rfl 3 rfl ?_
    refine g_iload hC dL_reads_37 0 rfl ?_
    refine s_callT hC [.int (nI (k + m))] (s_charAt l D cy w h q v t (nI (k + m)) hok (nI_in h8 (by omega))) (sVw_ok hC hS (fun _ h => absurd rfl h)) (fun _ _ h => nomatch h) (fun _ _ h => Or.inr ⟨rfl, h⟩) (E2 := gE0) q_s558 q_s559 q_s144 q_868 q_s557 h9_J0_charAt_5068e ⟨Nat.le_of_ble_eq_true rfl, Nat.le_of_ble_eq_true rfl⟩ 0 0 rfl rfl ⟨hcc, hss⟩ (Nat.le_of_ble_eq_true rfl) rfl dL_reads_39 ?_
    show gAt X cells slots 5 w h gE0 [(4, .int (nI (k + m))), (3, .int (pkN t k m)), (2, .int (nI k)), (1, .ref q), (0, .ref x)] [.int (t.getD (nI (k + m)).toNatClampNeg 0), .int (pkN t k m <<< (8 : Int32))] 42
    rw [show (nI (k + m)).toNatClampNeg = k + m from nI_clamp (by omega)]
    refine g_ior hC dL_reads_42 ?_
    refine g_istore_n (L' := [(3, .int (pkN t k (m + 1))), (4, .int (nI (k + m))), (2, .int (nI k)), (1, .ref q), (0, .ref x)]) hC dL_reads_43 rfl (by decide) rfl ?_
    refine g_iinc (L' := [(4, .int (nI (k + (m + 1)))), (3, .int (pkN t k (m + 1))), (2, .int (nI k)), (1, .ref q), (0, .ref x)]) (v := nI (k + (m + 1))) hC dL_reads_44 1 rfl ?_ (by decide) rfl ?_
    · exact nI_add (k + m) 1
    refine g_goto hC 15 dL_reads_47 (by decide) ?_
    exact ih (m + 1) (by omega)
set_option maxHeartbeats 4000000 in
theorem rd_out (hC : fOK X cL_reads 5 RL rmR l D cy) (hL : lOK X E0 sc) (hEn : fEnd X (some .int) (some (.int r)) w0 w' 16 96) (hS : sOK X (some (q, v, t))) (hl : t.length ≤ 60) (htb : tB t) (hF : F_L_read x w1 = some (r, w')) : ∀ c k w h cells slots, RDn x t c k w w1 → fSm w w0 → cells + c + 1 ≤ 16 → slots + 6 * c + 6 ≤ 96 → k < 100 → gAt X cells slots 5 w h gE0 [(2, .int (nI k)), (1, .ref q), (0, .ref x)] [] 2 := by
  intro c
  induction c with
  | zero =>
    intro k w h cells slots hR hs hcc hss hk
    obtain ⟨h1, rfl⟩ := hR
    refine g_iload_n hC dL_reads_2 rfl 0 rfl ?_
    refine g_aload_n hC dL_reads_3 rfl 1 rfl ?_
    refine s_callT hC [] (s_len l D cy w h q v t) (sVw_ok hC hS (fun _ h => absurd rfl h)) (fun _ _ h => nomatch h) (fun _ _ h => Or.inr ⟨rfl, h⟩) (E2 := gE0) q_s1183 q_s1184 q_s144 q_867 q_s1182 h9_J0_length_8abf5 ⟨Nat.le_of_ble_eq_true rfl, Nat.le_of_ble_eq_true rfl⟩ 0 0 rfl rfl ⟨by show cells + 0 ≤ 16; omega, by show slots + 0 ≤ 96; omega⟩ (Nat.le_of_ble_eq_true rfl) rfl dL_reads_4 ?_
    show gAt X cells slots 5 w h gE0 [(2, .int (nI k)), (1, .ref q), (0, .ref x)] [.int (nI t.length), .int (nI k)] 7
    refine g_icmp_ge hC 63 dL_reads_7 (by decide) (fun _ => ?_) (fun h9 => absurd (nI_le h1 (by omega)) h9)
    refine g_aload_n hC dL_reads_63 rfl 2 rfl ?_
    refine g_callLWk hC hL [.ref x] (c_L_read l D cy x w (r, w') hF) (Or.inl rfl) (fun _ _ h => nomatch h) q_880 q_72 q_878 q_879 h9_L_read ⟨Nat.le_of_ble_eq_true rfl, Nat.le_of_ble_eq_true rfl⟩ 1 6 rfl rfl ⟨by show cells + 1 ≤ 16; omega, by show slots + 6 ≤ 96; omega⟩ (Nat.le_of_ble_eq_true rfl) rfl dL_reads_64 (fun h2 _ hs2 => ?_)
    show gAt X (cells + 1) (slots + 6) 5 w' h2 gE0 [(2, .int (nI k)), (1, .ref q), (0, .ref x)] [.int r] 67
    refine g_widen (k' := 16) (s' := 96) (by omega) (by omega) ?_
    exact g_iret hC hEn (fSm.tr hs2 hs) dL_reads_67
  | succ c ih =>
    intro k w h cells slots hR hs hcc hss hk
    obtain ⟨h1, r1, w2, h2, h3⟩ := hR
    refine g_iload_n hC dL_reads_2 rfl 0 rfl ?_
    refine g_aload_n hC dL_reads_3 rfl 1 rfl ?_
    refine s_callT hC [] (s_len l D cy w h q v t) (sVw_ok hC hS (fun _ h => absurd rfl h)) (fun _ _ h => nomatch h) (fun _ _ h => Or.inr ⟨rfl, h⟩) (E2 := gE0) q_s1183 q_s1184 q_s144 q_867 q_s1182 h9_J0_length_8abf5 ⟨Nat.le_of_ble_eq_true rfl, Nat.le_of_ble_eq_true rfl⟩ 0 0 rfl rfl ⟨by show cells + 0 ≤ 16; omega, by show slots + 0 ≤ 96; omega⟩ (Nat.le_of_ble_eq_true rfl) rfl dL_reads_4 ?_
    show gAt X cells slots 5 w h gE0 [(2, .int (nI k)), (1, .ref q), (0, .ref x)] [.int (nI t.length), .int (nI k)] 7
    refine g_icmp_ge hC 63 dL_reads_7 (by decide) (fun h9 => absurd h9 (nI_ge h1 (by omega))) (fun _ => ?_)
    refine g_iconst (v := 0) hC dL_reads_10 (by decide) ?_
    refine g_istore_n (L' := [(3, .int 0), (2, .int (nI k)), (1, .ref q), (0, .ref x)]) hC dL_reads_11 rfl (by decide) rfl ?_
    refine g_iload_n hC dL_reads_12 rfl 1 rfl ?_
    refine g_istore (L' := [(4, .int (nI (k + 0))), (3, .int (pkN t k 0)), (2, .int (nI k)), (1, .ref q), (0, .ref x)]) hC dL_reads_13 (by decide) rfl ?_
    refine rd_in hC hS hl htb (by omega) (by omega) h1 rfl ?_ _ 0 (Nat.zero_add _)
    refine g_aload_n hC dL_reads_50 rfl 4 rfl ?_
    refine g_iload_n hC dL_reads_51 rfl 1 rfl ?_
    refine g_callLWk hC hL [.ref x, .int _] (c_L_append l D cy x _ w (r1, w2) h2) (Or.inl rfl) (fun _ _ h => nomatch h) q_871 q_72 q_869 q_870 h9_L_append ⟨Nat.le_of_ble_eq_true rfl, Nat.le_of_ble_eq_true rfl⟩ 1 6 rfl rfl ⟨by show cells + 1 ≤ 16; omega, by show slots + 6 ≤ 96; omega⟩ (Nat.le_of_ble_eq_true rfl) rfl dL_reads_52 (fun h4 _ hs2 => ?_)
    generalize k + (if t.length - k < 4 then t.length - k else 4) = z4
    generalize pkN t k (if t.length - k < 4 then t.length - k else 4) = z3
    show gAt X (cells + 1) (slots + 6) 5 w2 h4 gE0 [(4, .int (nI z4)), (3, .int z3), (2, .int (nI k)), (1, .ref q), (0, .ref x)] [.int r1] 55
    refine g_istore (L' := [(4, .int r1), (3, .int z3), (2, .int (nI k)), (1, .ref q), (0, .ref x)]) hC dL_reads_55 (by decide) rfl ?_
    refine g_iinc (L' := [(2, .int (nI (k + 4))), (4, .int r1), (3, .int z3), (1, .ref q), (0, .ref x)]) (v := nI (k + 4)) hC dL_reads_57 2 rfl ?_ (by decide) rfl ?_
    · exact nI_add k 4
    refine g_goto hC 2 dL_reads_60 (by decide) ?_
    refine g_sub (L' := [(2, .int (nI (k + 4))), (1, .ref q), (0, .ref x)]) [0, 3, 4] rfl ?_
    exact ih (k + 4) w2 h4 (cells + 1) (slots + 6) h3 (fSm.tr hs2 hs) (by omega) (by omega) (by omega)
end RDM
set_option maxHeartbeats 4000000 in
theorem c_L_reads (l : Launch) (D : va_G) (cy : Nat → ClassId) (x q v : Nat) (t : List Int32) (c : Nat) (w w1 w' : FW) (r : Int32) (hqv : ¬ q = v) (hl : t.length ≤ 60) (htb : tB t) (hc : c ≤ 15) (hR : RDn x t c 0 w w1) (hF : F_L_read x w1 = some (r, w')) : lSpec l D cy yL_reads (.code yL_reads cL_reads 5 (some .int)) rmR [.ref x, .ref q] (stE cy q v t) none w w' (some (.int r)) := by
  refine l_begin (by decide +kernel) (Nat.le_of_ble_eq_true rfl) (fun X h hC hEn hL => ?_)
  show gAt X 0 0 5 w h gE0 [(0, .ref x), (1, .ref q)] [] 0
  have hS : sOK X (some (q, v, t)) := sOK_E0 hC hL ((gUp_n hqv).trans (gUp_s _ _ _)) (gUp_s _ _ _)
  refine g_iconst (v := 0) hC dL_reads_0 (by decide) ?_
  refine g_istore_n (L' := [(2, .int (nI 0)), (0, .ref x), (1, .ref q)]) hC dL_reads_1 rfl (by decide) rfl ?_
  refine g_sub (L' := [(2, .int (nI 0)), (1, .ref q), (0, .ref x)]) [0, 2, 1] rfl ?_
  exact rd_out hC hL hEn hS hl htb hF c 0 w h 0 0 hR (fSm.rf w) (by omega) (by omega) (by omega)
