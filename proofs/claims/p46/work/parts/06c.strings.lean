/-! String constants by their places: charAt and length, out of the JDK's own code -/
def fsc (i : Nat) (k : Int32) : Int32 := (fByt.getD i []).getD k.toNatClampNeg 0
def fsl (i : Nat) : Int32 := nI (fByt.getD i []).length
def tOK (t : List Int32) : Prop := t.length < 2 ^ 31 ∧ ∀ b ∈ t, fch (b &&& 255) = b
theorem fByt_ok : ∀ i, i < 33 → (fByt.getD i []).length < 2 ^ 31 ∧ ∀ b ∈ fByt.getD i [], fch (b &&& 255) = b := by decide +kernel
theorem tOK_ch {t : List Int32} (h : tOK t) {k : Int32} (hk : k.toNatClampNeg < t.length) : fch (t.getD k.toNatClampNeg 0 &&& 255) = t.getD k.toNatClampNeg 0 := by
  refine h.2 _ ?_
  rw [List.getD_eq_getElem?_getD, List.getElem?_eq_getElem hk]
  exact List.getElem_mem _
theorem fsc_ch0 (b : Int32) : fch (fch b) = fch b := by
  have h : (b.toUInt32 % 65536).toInt32.toUInt32 = b.toUInt32 % 65536 := rfl
  unfold fch
  rw [h]
  congr 1
  apply UInt32.toNat_inj.mp
  simp
theorem q_s144 : Cond.initialized RJ0 ∈ lwA := mA 84 (by decide +kernel) rfl
theorem q_s147 : Cond.initialized RJ1 ∈ lwA := mA 86 (by decide +kernel) rfl
theorem q_s148 : Cond.initialized RJ3 ∈ lwA := mA 87 (by decide +kernel) rfl
theorem q_s559 : Cond.code yJ0_charAt_5068e cJ0_charAt_5068e 2 (some .char) ∈ lwA := mA 460 (by decide +kernel) rfl
theorem q_s557 : Cond.instanceMethod yJ0_charAt_5068e ∈ lwA := mA 458 (by decide +kernel) rfl
theorem q_s558 : Cond.selects yJ0_charAt_5068e.cls yJ0_charAt_5068e yJ0_charAt_5068e ∈ lwA := mA 459 (by decide +kernel) rfl
theorem q_s560 : Cond.methodLink RJ0 492 yJ0_isLatin1_aae02 ∈ lwA := mA 461 (by decide +kernel) rfl
theorem q_s561 : Cond.instanceMethod yJ0_isLatin1_aae02 ∈ lwA := mA 462 (by decide +kernel) rfl
theorem q_s562 : Cond.selects yJ0_isLatin1_aae02.cls yJ0_isLatin1_aae02 yJ0_isLatin1_aae02 ∈ lwA := mA 463 (by decide +kernel) rfl
theorem q_s563 : Cond.code yJ0_isLatin1_aae02 cJ0_isLatin1_aae02 1 (some .boolean) ∈ lwA := mA 464 (by decide +kernel) rfl
theorem q_s564 : Cond.fieldLink RJ0 38 "java/lang/String" "COMPACT_STRINGS" "Z" ∈ lwA := mA 465 (by decide +kernel) rfl
theorem q_s566 : Cond.methodLink RJ0 495 yJ1_charAt_3b067 ∈ lwA := mA 467 (by decide +kernel) rfl
theorem q_s567 : Cond.static yJ1_charAt_3b067 ∈ lwA := mA 468 (by decide +kernel) rfl
theorem q_s568 : Cond.code yJ1_charAt_3b067 cJ1_charAt_3b067 2 (some .char) ∈ lwA := mA 469 (by decide +kernel) rfl
theorem q_s569 : Cond.methodLink RJ1 9 yJ0_checkIndex_df160 ∈ lwA := mA 470 (by decide +kernel) rfl
theorem q_s570 : Cond.static yJ0_checkIndex_df160 ∈ lwA := mA 471 (by decide +kernel) rfl
theorem q_s571 : Cond.code yJ0_checkIndex_df160 cJ0_checkIndex_df160 2 none ∈ lwA := mA 472 (by decide +kernel) rfl
theorem q_s572 : Cond.fieldLink RJ0 1053 "jdk/internal/util/Preconditions" "SIOOBE_FORMATTER" "Ljava/util/function/BiFunction;" ∈ lwA := mA 473 (by decide +kernel) rfl
theorem q_s574 : Cond.methodLink RJ0 1059 yJ3_checkIndex_8e157 ∈ lwA := mA 475 (by decide +kernel) rfl
theorem q_s575 : Cond.static yJ3_checkIndex_8e157 ∈ lwA := mA 476 (by decide +kernel) rfl
theorem q_s576 : Cond.code yJ3_checkIndex_8e157 cJ3_checkIndex_8e157 3 (some .int) ∈ lwA := mA 477 (by decide +kernel) rfl
theorem q_s1182 : Cond.instanceMethod yJ0_length_8abf5 ∈ lwA := mA 735 (by decide +kernel) rfl
theorem q_s1183 : Cond.selects yJ0_length_8abf5.cls yJ0_length_8abf5 yJ0_length_8abf5 ∈ lwA := mA 736 (by decide +kernel) rfl
theorem q_s1184 : Cond.code yJ0_length_8abf5 cJ0_length_8abf5 1 (some .int) ∈ lwA := mA 737 (by decide +kernel) rfl
theorem q_s1185 : Cond.methodLink RJ0 335 yJ0_coder_7d493 ∈ lwA := mA 738 (by decide +kernel) rfl
theorem q_s1186 : Cond.instanceMethod yJ0_coder_7d493 ∈ lwA := mA 739 (by decide +kernel) rfl
theorem q_s1187 : Cond.selects yJ0_coder_7d493.cls yJ0_coder_7d493 yJ0_coder_7d493 ∈ lwA := mA 740 (by decide +kernel) rfl
theorem q_s1188 : Cond.code yJ0_coder_7d493 cJ0_coder_7d493 1 (some .byte) ∈ lwA := mA 741 (by decide +kernel) rfl
theorem q_s1772 : Cond.fieldLink RJ0 15 "java/lang/String" "coder" "B" ∈ lwA := mA 858 (by decide +kernel) rfl
theorem q_s1773 : Cond.fieldLink RJ0 9 "java/lang/String" "value" "[B" ∈ lwA := mA 857 (by decide +kernel) rfl
theorem dJ0_length_8abf5_0 : decode cJ0_length_8abf5 0 = .ok (.aload_n 0, 1) := by decide +kernel
theorem dJ0_length_8abf5_1 : decode cJ0_length_8abf5 1 = .ok (.getfield 9, 3) := by decide +kernel
theorem dJ0_length_8abf5_4 : decode cJ0_length_8abf5 4 = .ok (.arraylength, 1) := by decide +kernel
theorem dJ0_length_8abf5_5 : decode cJ0_length_8abf5 5 = .ok (.aload_n 0, 1) := by decide +kernel
theorem dJ0_length_8abf5_6 : decode cJ0_length_8abf5 6 = .ok (.invokevirtual 335, 3) := by decide +kernel
theorem dJ0_length_8abf5_9 : decode cJ0_length_8abf5 9 = .ok (.ishr, 1) := by decide +kernel
theorem dJ0_length_8abf5_10 : decode cJ0_length_8abf5 10 = .ok (.ireturn, 1) := by decide +kernel
theorem dJ0_charAt_5068e_0 : decode cJ0_charAt_5068e 0 = .ok (.aload_n 0, 1) := by decide +kernel
theorem dJ0_charAt_5068e_1 : decode cJ0_charAt_5068e 1 = .ok (.invokevirtual 492, 3) := by decide +kernel
theorem dJ0_charAt_5068e_4 : decode cJ0_charAt_5068e 4 = .ok (.ifCond .eq 12, 3) := by decide +kernel
theorem dJ0_charAt_5068e_7 : decode cJ0_charAt_5068e 7 = .ok (.aload_n 0, 1) := by decide +kernel
theorem dJ0_charAt_5068e_8 : decode cJ0_charAt_5068e 8 = .ok (.getfield 9, 3) := by decide +kernel
theorem dJ0_charAt_5068e_11 : decode cJ0_charAt_5068e 11 = .ok (.iload_n 1, 1) := by decide +kernel
theorem dJ0_charAt_5068e_12 : decode cJ0_charAt_5068e 12 = .ok (.invokestatic 495, 3) := by decide +kernel
theorem dJ0_charAt_5068e_15 : decode cJ0_charAt_5068e 15 = .ok (.ireturn, 1) := by decide +kernel
theorem dJ0_charAt_5068e_16 : decode cJ0_charAt_5068e 16 = .ok (.aload_n 0, 1) := by decide +kernel
theorem dJ0_charAt_5068e_17 : decode cJ0_charAt_5068e 17 = .ok (.getfield 9, 3) := by decide +kernel
theorem dJ0_charAt_5068e_20 : decode cJ0_charAt_5068e 20 = .ok (.iload_n 1, 1) := by decide +kernel
theorem dJ0_charAt_5068e_21 : decode cJ0_charAt_5068e 21 = .ok (.invokestatic 498, 3) := by decide +kernel
theorem dJ0_charAt_5068e_24 : decode cJ0_charAt_5068e 24 = .ok (.ireturn, 1) := by decide +kernel
theorem dJ0_coder_7d493_0 : decode cJ0_coder_7d493 0 = .ok (.getstatic 38, 3) := by decide +kernel
theorem dJ0_coder_7d493_3 : decode cJ0_coder_7d493 3 = .ok (.ifCond .eq 10, 3) := by decide +kernel
theorem dJ0_coder_7d493_6 : decode cJ0_coder_7d493 6 = .ok (.aload_n 0, 1) := by decide +kernel
theorem dJ0_coder_7d493_7 : decode cJ0_coder_7d493 7 = .ok (.getfield 15, 3) := by decide +kernel
theorem dJ0_coder_7d493_10 : decode cJ0_coder_7d493 10 = .ok (.goto 4, 3) := by decide +kernel
theorem dJ0_coder_7d493_13 : decode cJ0_coder_7d493 13 = .ok (.iconst 1, 1) := by decide +kernel
theorem dJ0_coder_7d493_14 : decode cJ0_coder_7d493 14 = .ok (.ireturn, 1) := by decide +kernel
theorem dJ0_isLatin1_aae02_0 : decode cJ0_isLatin1_aae02 0 = .ok (.getstatic 38, 3) := by decide +kernel
theorem dJ0_isLatin1_aae02_3 : decode cJ0_isLatin1_aae02 3 = .ok (.ifCond .eq 14, 3) := by decide +kernel
theorem dJ0_isLatin1_aae02_6 : decode cJ0_isLatin1_aae02 6 = .ok (.aload_n 0, 1) := by decide +kernel
theorem dJ0_isLatin1_aae02_7 : decode cJ0_isLatin1_aae02 7 = .ok (.getfield 15, 3) := by decide +kernel
theorem dJ0_isLatin1_aae02_10 : decode cJ0_isLatin1_aae02 10 = .ok (.ifCond .ne 7, 3) := by decide +kernel
theorem dJ0_isLatin1_aae02_13 : decode cJ0_isLatin1_aae02 13 = .ok (.iconst 1, 1) := by decide +kernel
theorem dJ0_isLatin1_aae02_14 : decode cJ0_isLatin1_aae02 14 = .ok (.goto 4, 3) := by decide +kernel
theorem dJ0_isLatin1_aae02_17 : decode cJ0_isLatin1_aae02 17 = .ok (.iconst 0, 1) := by decide +kernel
theorem dJ0_isLatin1_aae02_18 : decode cJ0_isLatin1_aae02 18 = .ok (.ireturn, 1) := by decide +kernel
theorem dJ0_checkIndex_df160_0 : decode cJ0_checkIndex_df160 0 = .ok (.iload_n 0, 1) := by decide +kernel
theorem dJ0_checkIndex_df160_1 : decode cJ0_checkIndex_df160 1 = .ok (.iload_n 1, 1) := by decide +kernel
theorem dJ0_checkIndex_df160_2 : decode cJ0_checkIndex_df160 2 = .ok (.getstatic 1053, 3) := by decide +kernel
theorem dJ0_checkIndex_df160_5 : decode cJ0_checkIndex_df160 5 = .ok (.invokestatic 1059, 3) := by decide +kernel
theorem dJ0_checkIndex_df160_8 : decode cJ0_checkIndex_df160 8 = .ok (.pop, 1) := by decide +kernel
theorem dJ0_checkIndex_df160_9 : decode cJ0_checkIndex_df160 9 = .ok (.return_, 1) := by decide +kernel
theorem dJ1_charAt_3b067_0 : decode cJ1_charAt_3b067 0 = .ok (.iload_n 1, 1) := by decide +kernel
theorem dJ1_charAt_3b067_1 : decode cJ1_charAt_3b067 1 = .ok (.aload_n 0, 1) := by decide +kernel
theorem dJ1_charAt_3b067_2 : decode cJ1_charAt_3b067 2 = .ok (.arraylength, 1) := by decide +kernel
theorem dJ1_charAt_3b067_3 : decode cJ1_charAt_3b067 3 = .ok (.invokestatic 9, 3) := by decide +kernel
theorem dJ1_charAt_3b067_6 : decode cJ1_charAt_3b067 6 = .ok (.aload_n 0, 1) := by decide +kernel
theorem dJ1_charAt_3b067_7 : decode cJ1_charAt_3b067 7 = .ok (.iload_n 1, 1) := by decide +kernel
theorem dJ1_charAt_3b067_8 : decode cJ1_charAt_3b067 8 = .ok (.baload, 1) := by decide +kernel
theorem dJ1_charAt_3b067_9 : decode cJ1_charAt_3b067 9 = .ok (.sipush 255, 3) := by decide +kernel
theorem dJ1_charAt_3b067_12 : decode cJ1_charAt_3b067 12 = .ok (.iand, 1) := by decide +kernel
theorem dJ1_charAt_3b067_13 : decode cJ1_charAt_3b067 13 = .ok (.i2c, 1) := by decide +kernel
theorem dJ1_charAt_3b067_14 : decode cJ1_charAt_3b067 14 = .ok (.ireturn, 1) := by decide +kernel
theorem dJ3_checkIndex_8e157_0 : decode cJ3_checkIndex_8e157 0 = .ok (.iload_n 0, 1) := by decide +kernel
theorem dJ3_checkIndex_8e157_1 : decode cJ3_checkIndex_8e157 1 = .ok (.ifCond .lt 8, 3) := by decide +kernel
theorem dJ3_checkIndex_8e157_4 : decode cJ3_checkIndex_8e157 4 = .ok (.iload_n 0, 1) := by decide +kernel
theorem dJ3_checkIndex_8e157_5 : decode cJ3_checkIndex_8e157 5 = .ok (.iload_n 1, 1) := by decide +kernel
theorem dJ3_checkIndex_8e157_6 : decode cJ3_checkIndex_8e157 6 = .ok (.if_icmp .lt 10, 3) := by decide +kernel
theorem dJ3_checkIndex_8e157_9 : decode cJ3_checkIndex_8e157 9 = .ok (.aload_n 2, 1) := by decide +kernel
theorem dJ3_checkIndex_8e157_10 : decode cJ3_checkIndex_8e157 10 = .ok (.iload_n 0, 1) := by decide +kernel
theorem dJ3_checkIndex_8e157_11 : decode cJ3_checkIndex_8e157 11 = .ok (.iload_n 1, 1) := by decide +kernel
theorem dJ3_checkIndex_8e157_12 : decode cJ3_checkIndex_8e157 12 = .ok (.invokestatic 95, 3) := by decide +kernel
theorem dJ3_checkIndex_8e157_15 : decode cJ3_checkIndex_8e157 15 = .ok (.athrow, 1) := by decide +kernel
theorem dJ3_checkIndex_8e157_16 : decode cJ3_checkIndex_8e157 16 = .ok (.iload_n 0, 1) := by decide +kernel
theorem dJ3_checkIndex_8e157_17 : decode cJ3_checkIndex_8e157 17 = .ok (.ireturn, 1) := by decide +kernel
theorem h9_J0_length_8abf5 : yJ0_length_8abf5.cls ≠ "java/lang/invoke/MethodHandle" ∧ yJ0_length_8abf5.cls ≠ "java/lang/invoke/VarHandle" ∧ (parseMethodDescriptor yJ0_length_8abf5.desc).map (fun d => d.parameters.length) = some 0 := by decide +kernel
theorem h9_J0_charAt_5068e : yJ0_charAt_5068e.cls ≠ "java/lang/invoke/MethodHandle" ∧ yJ0_charAt_5068e.cls ≠ "java/lang/invoke/VarHandle" ∧ (parseMethodDescriptor yJ0_charAt_5068e.desc).map (fun d => d.parameters.length) = some 1 := by decide +kernel
theorem h9_J0_coder_7d493 : yJ0_coder_7d493.cls ≠ "java/lang/invoke/MethodHandle" ∧ yJ0_coder_7d493.cls ≠ "java/lang/invoke/VarHandle" ∧ (parseMethodDescriptor yJ0_coder_7d493.desc).map (fun d => d.parameters.length) = some 0 := by decide +kernel
theorem h9_J0_isLatin1_aae02 : yJ0_isLatin1_aae02.cls ≠ "java/lang/invoke/MethodHandle" ∧ yJ0_isLatin1_aae02.cls ≠ "java/lang/invoke/VarHandle" ∧ (parseMethodDescriptor yJ0_isLatin1_aae02.desc).map (fun d => d.parameters.length) = some 0 := by decide +kernel
theorem h9_J0_checkIndex_df160 : yJ0_checkIndex_df160.cls ≠ "java/lang/invoke/MethodHandle" ∧ yJ0_checkIndex_df160.cls ≠ "java/lang/invoke/VarHandle" ∧ (parseMethodDescriptor yJ0_checkIndex_df160.desc).map (fun d => d.parameters.length) = some 2 := by decide +kernel
theorem h9_J1_charAt_3b067 : yJ1_charAt_3b067.cls ≠ "java/lang/invoke/MethodHandle" ∧ yJ1_charAt_3b067.cls ≠ "java/lang/invoke/VarHandle" ∧ (parseMethodDescriptor yJ1_charAt_3b067.desc).map (fun d => d.parameters.length) = some 2 := by decide +kernel
theorem h9_J3_checkIndex_8e157 : yJ3_checkIndex_8e157.cls ≠ "java/lang/invoke/MethodHandle" ∧ yJ3_checkIndex_8e157.cls ≠ "java/lang/invoke/VarHandle" ∧ (parseMethodDescriptor yJ3_checkIndex_8e157.desc).map (fun d => d.parameters.length) = some 3 := by decide +kernel
section FSTR
variable {X : FX} {cc : ByteArray} {nL : Nat} {own : String} {rm : Room} {l : Launch} {D : va_G} {cy : Nat → ClassId} {cells slots pc : Nat} {w w1 : FW} {L : List (Nat × Value)} {st stk : List Value}
theorem f_ldcS (hC : fOK X cc nL own rm l D cy) {tx : String} {ix : Nat} (i : Nat) (hs : fStrL[i]? = some (own, ix, tx)) (hd : decode cc pc = .ok (.ldc ix, 2)) (k : fAt X cells slots nL w L (.ref (D.2 99 i) :: st) (pc + 2)) : fAt X cells slots nL w L st pc := by
  obtain ⟨p, l', e, R, s, m, args, below, meth, c, Q, D', cy', A⟩ := X
  obtain ⟨hx, hb, hml, hown, hts, hE, hA, rfl, rfl, rfl, rfl⟩ := hC
  intro H locs ls h1 h2 h3 h4
  exact va_ldcS hx hb hown (hE.2.2.1 i _ hs) hd (k H locs ls h1 h2 h3 h4)
theorem f_ldcW (hC : fOK X cc nL own rm l D cy) {tx : String} {ix : Nat} (i : Nat) (hs : fStrL[i]? = some (own, ix, tx)) (hd : decode cc pc = .ok (.ldc_w ix, 3)) (k : fAt X cells slots nL w L (.ref (D.2 99 i) :: st) (pc + 3)) : fAt X cells slots nL w L st pc := by
  obtain ⟨p, l', e, R, s, m, args, below, meth, c, Q, D', cy', A⟩ := X
  obtain ⟨hx, hb, hml, hown, hts, hE, hA, rfl, rfl, rfl, rfl⟩ := hC
  intro H locs ls h1 h2 h3 h4
  intro T hT X
  obtain ⟨t, a1, b1⟩ := k H locs ls h1 h2 h3 h4 T hT X
  exact ⟨t, X.ldcStringW hx hown (text := tx) (a := D'.2 99 i) (hE.2.2.1 i _ hs).1 (hE.2.2.1 i _ hs).2 (g := F0 m pc ls st) rfl (by rw [hb]; exact hd) t a1, b1⟩
theorem f_gCS (hC : fOK X cc nL own rm l D cy) {ix : Nat} (hq : Cond.fieldLink own ix "java/lang/String" "COMPACT_STRINGS" "Z" ∈ lwA) (hd : decode cc pc = .ok (.getstatic ix, 3)) (k : fAt X cells slots nL w L (.int 1 :: st) (pc + 3)) : fAt X cells slots nL w L st pc := by
  obtain ⟨p, l', e, R, s, m, args, below, meth, c, Q, D', cy', A⟩ := X
  obtain ⟨hx, hb, hml, hown, hts, hE, hA, rfl, rfl, rfl, rfl⟩ := hC
  intro H locs ls h1 h2 h3 h4
  exact va_gets hx hb hE.2.2.2.2.2.2.1 h3 hown (hts _ hq) (fun _ h => h) hd (k H locs ls h1 h2 h3 h4)
theorem f_gSI (hC : fOK X cc nL own rm l D cy) {ix : Nat} (hq : Cond.fieldLink own ix "jdk/internal/util/Preconditions" "SIOOBE_FORMATTER" "Ljava/util/function/BiFunction;" ∈ lwA) (hd : decode cc pc = .ok (.getstatic ix, 3)) (k0 : fAt X cells slots nL w L (.null :: st) (pc + 3)) (k1 : ∀ a : Nat, fAt X cells slots nL w L (.ref a :: st) (pc + 3)) : fAt X cells slots nL w L st pc := by
  obtain ⟨p, l', e, R, s, m, args, below, meth, c, Q, D', cy', A⟩ := X
  obtain ⟨hx, hb, hml, hown, hts, hE, hA, rfl, rfl, rfl, rfl⟩ := hC
  intro H locs ls h1 h2 h3 h4
  rcases hE.2.2.2.2.2.2.2.1 with hZ | ⟨a, hZ⟩
  · exact va_gets hx hb hZ h3 hown (hts _ hq) (fun _ h => h) hd (k0 H locs ls h1 h2 h3 h4)
  · exact va_gets hx hb hZ h3 hown (hts _ hq) (fun _ h => h) hd (k1 a H locs ls h1 h2 h3 h4)
theorem f_sco (hC : fOK X cc nL own rm l D cy) {ix i : Nat} (hi : i < 33) (hq : Cond.fieldLink own ix "java/lang/String" "coder" "B" ∈ lwA) (hd : decode cc pc = .ok (.getfield ix, 3)) (k : fAt X cells slots nL w L (.int 0 :: st) (pc + 3)) : fAt X cells slots nL w L (.ref (D.2 99 i) :: st) pc := by
  obtain ⟨p, l', e, R, s, m, args, below, meth, c, Q, D', cy', A⟩ := X
  obtain ⟨hx, hb, hml, hown, hts, hE, hA, rfl, rfl, rfl, rfl⟩ := hC
  intro H locs ls h1 h2 h3 h4
  exact vk_getf hx hb (hE.2.2.2.1 i hi).2.1 h3 hown (hts _ hq) (fun _ h => h) hd (k H locs ls h1 h2 h3 h4)
theorem f_sva (hC : fOK X cc nL own rm l D cy) {ix i : Nat} (hi : i < 33) (hq : Cond.fieldLink own ix "java/lang/String" "value" "[B" ∈ lwA) (hd : decode cc pc = .ok (.getfield ix, 3)) (k : fAt X cells slots nL w L (.ref (D.2 98 i) :: st) (pc + 3)) : fAt X cells slots nL w L (.ref (D.2 99 i) :: st) pc := by
  obtain ⟨p, l', e, R, s, m, args, below, meth, c, Q, D', cy', A⟩ := X
  obtain ⟨hx, hb, hml, hown, hts, hE, hA, rfl, rfl, rfl, rfl⟩ := hC
  intro H locs ls h1 h2 h3 h4
  exact vk_getf hx hb (hE.2.2.2.1 i hi).2.2.1 h3 hown (hts _ hq) (fun _ h => h) hd (k H locs ls h1 h2 h3 h4)
theorem f_sal (hC : fOK X cc nL own rm l D cy) {i : Nat} {t : List Int32} (hi : i < 33) (ht : fBy D i = t) (hd : decode cc pc = .ok (.arraylength, 1)) (k : fAt X cells slots nL w L (.int (nI t.length) :: st) (pc + 1)) : fAt X cells slots nL w L (.ref (D.2 98 i) :: st) pc := by
  obtain ⟨p, l', e, R, s, m, args, below, meth, c, Q, D', cy', A⟩ := X
  obtain ⟨hx, hb, hml, hown, hts, hE, hA, rfl, rfl, rfl, rfl⟩ := hC
  intro H locs ls h1 h2 h3 h4
  subst ht
  obtain ⟨cell, q1, q2, q3, q4, q5, q6, q7⟩ := (hE.2.2.2.1 i hi).2.2.2.kept h3.2.1
  exact W.alen hx hb q1 q2 (n := nI (fBy D' i).length) q5 rfl rfl hd (k H locs ls h1 h2 h3 h4)
theorem f_sab (hC : fOK X cc nL own rm l D cy) {i : Nat} {j : Int32} {t : List Int32} (hi : i < 33) (ht : fBy D i = t) (hj : ¬ (j < 0 ∨ t.length ≤ j.toNatClampNeg)) (hd : decode cc pc = .ok (.baload, 1)) (k : fAt X cells slots nL w L (.int (t.getD j.toNatClampNeg 0) :: st) (pc + 1)) : fAt X cells slots nL w L (.int j :: .ref (D.2 98 i) :: st) pc := by
  obtain ⟨p, l', e, R, s, m, args, below, meth, c, Q, D', cy', A⟩ := X
  obtain ⟨hx, hb, hml, hown, hts, hE, hA, rfl, rfl, rfl, rfl⟩ := hC
  intro H locs ls h1 h2 h3 h4
  subst ht
  obtain ⟨cell, q1, q2, q3, q4, q5, q6, q7⟩ := (hE.2.2.2.1 i hi).2.2.2.kept h3.2.1
  exact W.bald (v := .int ((fBy D' i).getD j.toNatClampNeg 0)) hx hb q1 q2 q3 (fun z => hj (z.elim Or.inl (fun z => Or.inr (Nat.le_trans q4 z)))) (q6 _ (Nat.not_le.mp fun z => hj (Or.inr z))) rfl rfl hd (k H locs ls h1 h2 h3 h4)
theorem f_pop (hC : fOK X cc nL own rm l D cy) {v : Value} (hd : decode cc pc = .ok (.pop, 1)) (hv : v.category = 1) (k : fAt X cells slots nL w L st (pc + 1)) : fAt X cells slots nL w L (v :: st) pc := by
  obtain ⟨p, l', e, R, s, m, args, below, meth, c, Q, D', cy', A⟩ := X
  obtain ⟨hx, hb, hml, hown, hts, hE, hA, rfl, rfl, rfl, rfl⟩ := hC
  intro H locs ls h1 h2 h3 h4
  exact lv_pop hx hb hd hv (k H locs ls h1 h2 h3 h4)
theorem f_callStr {y : MethodName} {bytes : ByteArray} {maxL : Nat} {ret : Option FieldType} {rm1 : Room} {rv : Option Value} {si i : Nat} (hC : fOK X cc nL own rm l D cy) (As : List Value) (hM : fSpec l D cy y bytes maxL ret rm1 (.ref (D.2 99 si) :: As) w w1 rv) (hsi : si < 33) (hyc : y.cls = "java/lang/String") (hcode : Cond.code y bytes maxL ret ∈ lwA) (hini : Cond.initialized y.cls ∈ lwA) (hlink : Cond.methodLink own i y ∈ lwA) (hinst : Cond.instanceMethod y ∈ lwA) (hsel : Cond.selects y.cls y y ∈ lwA) (hd9 : y.cls ≠ "java/lang/invoke/MethodHandle" ∧ y.cls ≠ "java/lang/invoke/VarHandle" ∧ (parseMethodDescriptor y.desc).map (fun d => d.parameters.length) = some As.length) (hR : rm1.frames + 1 ≤ rm.frames ∧ 8 + (maxL + 11) + rm1.locals ≤ rm.locals) (hcs : cells + rm1.cells ≤ rm.cells ∧ slots + rm1.slots ≤ rm.slots) (hcat : (st.map fun v => v.category).sum ≤ 8) (hstk : stk = As.reverse ++ .ref (D.2 99 si) :: st) (hd : decode cc pc = .ok (.invokevirtual i, 3)) (k : fSm w1 w → fAt X (cells + rm1.cells) (slots + rm1.slots) nL w1 L (rv.toList ++ st) (pc + 3)) : fAt X cells slots nL w L stk pc := by
  obtain ⟨p, l', e, R, s, m, args, below, meth, c, Q, D', cy', A⟩ := X
  obtain ⟨hx, hb, hml, hown, hts, hE, hA, rfl, rfl, rfl, rfl⟩ := hC
  intro H locs ls h1 h2 h3 h4
  subst hstk
  obtain ⟨cell, q1, q2, q3, q4⟩ := (hE.2.2.2.1 si hsi).1.kept h3.2.1
  refine f_after (va_runV (As := As) (rest := st) (C := y.cls) ⟨hx, hb, hml, hown, hts⟩ (hM H.size) ⟨callB_of As.length hts (gA0 hcode) rfl rfl rfl (hts _ hini) (hts _ hlink) hd9 hR, hts _ hinst, hts _ hsel⟩ ⟨fPc_blind, ⟨cell, q1, q2, by rw [hyc]; exact q3⟩, fun U hU hW => fPc_at hE h1 h2 h3 hA hU hW⟩ rfl rfl h4.1 rfl (lv_room hcat) hd hcs) h2 h3 hA (fun H1 locs1 g0 g1 g2 g3 => k g0 H1 locs1 ls g1 g2 g3 h4)
end FSTR
theorem c_isLatin1 (l : Launch) (D : va_G) (cy : Nat → ClassId) (w : FW) (i : Nat) (hi : i < 33) : fSpec l D cy yJ0_isLatin1_aae02 cJ0_isLatin1_aae02 1 (some .boolean) { frames := 0, cells := 0, slots := 0, locals := 0 } [.ref (D.2 99 i)] w w (some (.int 1)) := by
  refine f_begin (by decide +kernel) (Nat.le_of_ble_eq_true rfl) (fun X hC hEn => ?_)
  show fAt X 0 0 1 w [(0, .ref (D.2 99 i))] [] 0
  refine f_gCS hC q_s564 dJ0_isLatin1_aae02_0 ?_
  refine f_if_eq hC 17 dJ0_isLatin1_aae02_3 (by decide) (fun h => absurd h (by decide)) (fun _ => ?_)
  refine f_aload_n hC dJ0_isLatin1_aae02_6 rfl 0 rfl ?_
  refine f_sco hC hi q_s1772 dJ0_isLatin1_aae02_7 ?_
  refine f_if_ne hC 17 dJ0_isLatin1_aae02_10 (by decide) (fun h => absurd rfl h) (fun _ => ?_)
  refine f_iconst (v := 1) hC dJ0_isLatin1_aae02_13 (by decide) ?_
  refine f_goto hC 18 dJ0_isLatin1_aae02_14 (by decide) ?_
  exact f_zret hC hEn (fSm.rf w) (nar_z (Or.inr rfl)) dJ0_isLatin1_aae02_18
theorem c_coder (l : Launch) (D : va_G) (cy : Nat → ClassId) (w : FW) (i : Nat) (hi : i < 33) : fSpec l D cy yJ0_coder_7d493 cJ0_coder_7d493 1 (some .byte) { frames := 0, cells := 0, slots := 0, locals := 0 } [.ref (D.2 99 i)] w w (some (.int 0)) := by
  refine f_begin (by decide +kernel) (Nat.le_of_ble_eq_true rfl) (fun X hC hEn => ?_)
  show fAt X 0 0 1 w [(0, .ref (D.2 99 i))] [] 0
  refine f_gCS hC q_s564 dJ0_coder_7d493_0 ?_
  refine f_if_eq hC 13 dJ0_coder_7d493_3 (by decide) (fun h => absurd h (by decide)) (fun _ => ?_)
  refine f_aload_n hC dJ0_coder_7d493_6 rfl 0 rfl ?_
  refine f_sco hC hi q_s1772 dJ0_coder_7d493_7 ?_
  refine f_goto hC 14 dJ0_coder_7d493_10 (by decide) ?_
  exact f_zret hC hEn (fSm.rf w) (by decide) dJ0_coder_7d493_14
theorem c_pcheck (l : Launch) (D : va_G) (cy : Nat → ClassId) (w : FW) (i n : Int32) (v : Value) (hv : v = .null ∨ ∃ a, v = .ref a) (h0 : ¬ i < 0) (hn : i < n) : fSpec l D cy yJ3_checkIndex_8e157 cJ3_checkIndex_8e157 3 (some .int) { frames := 0, cells := 0, slots := 0, locals := 0 } [.int i, .int n, v] w w (some (.int i)) := by
  rcases hv with rfl | ⟨a, rfl⟩
  · refine f_begin (by decide +kernel) (Nat.le_of_ble_eq_true rfl) (fun X hC hEn => ?_)
    show fAt X 0 0 3 w [(0, .int i), (1, .int n), (2, .null)] [] 0
    refine f_iload_n hC dJ3_checkIndex_8e157_0 rfl 0 rfl ?_
    refine f_if_lt hC 9 dJ3_checkIndex_8e157_1 (by decide) (fun h => absurd h h0) (fun _ => ?_)
    refine f_iload_n hC dJ3_checkIndex_8e157_4 rfl 0 rfl ?_
    refine f_iload_n hC dJ3_checkIndex_8e157_5 rfl 1 rfl ?_
    refine f_icmp_lt hC 16 dJ3_checkIndex_8e157_6 (by decide) (fun _ => ?_) (fun h => absurd hn h)
    refine f_iload_n hC dJ3_checkIndex_8e157_16 rfl 0 rfl ?_
    exact f_iret hC hEn (fSm.rf w) dJ3_checkIndex_8e157_17
  · refine f_begin (by decide +kernel) (Nat.le_of_ble_eq_true rfl) (fun X hC hEn => ?_)
    show fAt X 0 0 3 w [(0, .int i), (1, .int n), (2, .ref a)] [] 0
    refine f_iload_n hC dJ3_checkIndex_8e157_0 rfl 0 rfl ?_
    refine f_if_lt hC 9 dJ3_checkIndex_8e157_1 (by decide) (fun h => absurd h h0) (fun _ => ?_)
    refine f_iload_n hC dJ3_checkIndex_8e157_4 rfl 0 rfl ?_
    refine f_iload_n hC dJ3_checkIndex_8e157_5 rfl 1 rfl ?_
    refine f_icmp_lt hC 16 dJ3_checkIndex_8e157_6 (by decide) (fun _ => ?_) (fun h => absurd hn h)
    refine f_iload_n hC dJ3_checkIndex_8e157_16 rfl 0 rfl ?_
    exact f_iret hC hEn (fSm.rf w) dJ3_checkIndex_8e157_17
theorem c_scheck (l : Launch) (D : va_G) (cy : Nat → ClassId) (w : FW) (i n : Int32) (h0 : ¬ i < 0) (hn : i < n) : fSpec l D cy yJ0_checkIndex_df160 cJ0_checkIndex_df160 2 none { frames := 1, cells := 0, slots := 0, locals := 22 } [.int i, .int n] w w none := by
  refine f_begin (by decide +kernel) (Nat.le_of_ble_eq_true rfl) (fun X hC hEn => ?_)
  show fAt X 0 0 2 w [(0, .int i), (1, .int n)] [] 0
  refine f_iload_n hC dJ0_checkIndex_df160_0 rfl 0 rfl ?_
  refine f_iload_n hC dJ0_checkIndex_df160_1 rfl 1 rfl ?_
  refine f_gSI hC q_s572 dJ0_checkIndex_df160_2 ?_ (fun a => ?_)
  · refine f_callS hC [.int i, .int n, .null] (c_pcheck l D cy w i n .null (Or.inl rfl) h0 hn) q_s576 q_s148 q_s574 q_s575 h9_J3_checkIndex_8e157 ⟨Nat.le_of_ble_eq_true rfl, Nat.le_of_ble_eq_true rfl⟩ ⟨Nat.le_of_ble_eq_true rfl, Nat.le_of_ble_eq_true rfl⟩ (Nat.le_of_ble_eq_true rfl) rfl dJ0_checkIndex_df160_5 (fun _ => ?_)
    refine f_pop hC dJ0_checkIndex_df160_8 rfl ?_
    exact f_vret hC hEn (fSm.rf w) dJ0_checkIndex_df160_9
  · refine f_callS hC [.int i, .int n, .ref a] (c_pcheck l D cy w i n (.ref a) (Or.inr ⟨a, rfl⟩) h0 hn) q_s576 q_s148 q_s574 q_s575 h9_J3_checkIndex_8e157 ⟨Nat.le_of_ble_eq_true rfl, Nat.le_of_ble_eq_true rfl⟩ ⟨Nat.le_of_ble_eq_true rfl, Nat.le_of_ble_eq_true rfl⟩ (Nat.le_of_ble_eq_true rfl) rfl dJ0_checkIndex_df160_5 (fun _ => ?_)
    refine f_pop hC dJ0_checkIndex_df160_8 rfl ?_
    exact f_vret hC hEn (fSm.rf w) dJ0_checkIndex_df160_9
theorem fsl_lt {t : List Int32} {k : Int32} (hok : tOK t) (hk : ¬ (k < 0 ∨ t.length ≤ k.toNatClampNeg)) : ¬ k < 0 ∧ k < nI t.length := by
  have h0 : ¬ k < 0 := fun h => hk (Or.inl h)
  have h1 : k.toNatClampNeg < t.length := Nat.not_le.mp fun h => hk (Or.inr h)
  have h2 := hok.1
  refine ⟨h0, ?_⟩
  obtain ⟨j, hj, rfl⟩ := nI_of h0
  rw [nI_clamp hj] at h1
  exact nI_lt h1 h2
theorem c_lcharAt (l : Launch) (D : va_G) (cy : Nat → ClassId) (w : FW) (i : Nat) (k : Int32) (t : List Int32) (hi : i < 33) (ht : fBy D i = t) (hok : tOK t) (hk : ¬ (k < 0 ∨ t.length ≤ k.toNatClampNeg)) : fSpec l D cy yJ1_charAt_3b067 cJ1_charAt_3b067 2 (some .char) { frames := 2, cells := 0, slots := 0, locals := 43 } [.ref (D.2 98 i), .int k] w w (some (.int (t.getD k.toNatClampNeg 0))) := by
  obtain ⟨h0, hn⟩ := fsl_lt hok hk
  refine f_begin (by decide +kernel) (Nat.le_of_ble_eq_true rfl) (fun X hC hEn => ?_)
  show fAt X 0 0 2 w [(0, .ref (D.2 98 i)), (1, .int k)] [] 0
  refine f_iload_n hC dJ1_charAt_3b067_0 rfl 1 rfl ?_
  refine f_aload_n hC dJ1_charAt_3b067_1 rfl 0 rfl ?_
  refine f_sal hC hi ht dJ1_charAt_3b067_2 ?_
  refine f_callS hC [.int k, .int (nI t.length)] (c_scheck l D cy w k (nI t.length) h0 hn) q_s571 q_s144 q_s569 q_s570 h9_J0_checkIndex_df160 ⟨Nat.le_of_ble_eq_true rfl, Nat.le_of_ble_eq_true rfl⟩ ⟨Nat.le_of_ble_eq_true rfl, Nat.le_of_ble_eq_true rfl⟩ (Nat.le_of_ble_eq_true rfl) rfl dJ1_charAt_3b067_3 (fun _ => ?_)
  refine f_aload_n hC dJ1_charAt_3b067_6 rfl 0 rfl ?_
  refine f_iload_n hC dJ1_charAt_3b067_7 rfl 1 rfl ?_
  refine f_sab hC hi ht hk dJ1_charAt_3b067_8 ?_
  refine f_sipush (v := 255) hC dJ1_charAt_3b067_9 (by decide) ?_
  refine f_iand hC dJ1_charAt_3b067_12 ?_
  refine f_i2c hC dJ1_charAt_3b067_13 ?_
  rw [tOK_ch hok (Nat.not_le.mp fun h => hk (Or.inr h))]
  exact f_zret hC hEn (fSm.rf w) (nar_c (by rw [← tOK_ch hok (Nat.not_le.mp fun h => hk (Or.inr h))]; exact fsc_ch0 _)) dJ1_charAt_3b067_14
theorem c_charAtG (l : Launch) (D : va_G) (cy : Nat → ClassId) (w : FW) (i : Nat) (k : Int32) (t : List Int32) (hi : i < 33) (ht : fBy D i = t) (hok : tOK t) (hk : ¬ (k < 0 ∨ t.length ≤ k.toNatClampNeg)) : fSpec l D cy yJ0_charAt_5068e cJ0_charAt_5068e 2 (some .char) { frames := 3, cells := 0, slots := 0, locals := 64 } [.ref (D.2 99 i), .int k] w w (some (.int (t.getD k.toNatClampNeg 0))) := by
  refine f_begin (by decide +kernel) (Nat.le_of_ble_eq_true rfl) (fun X hC hEn => ?_)
  show fAt X 0 0 2 w [(0, .ref (D.2 99 i)), (1, .int k)] [] 0
  refine f_aload_n hC dJ0_charAt_5068e_0 rfl 0 rfl ?_
  refine f_callStr hC [] (c_isLatin1 l D cy w i hi) hi rfl q_s563 q_s144 q_s560 q_s561 q_s562 h9_J0_isLatin1_aae02 ⟨Nat.le_of_ble_eq_true rfl, Nat.le_of_ble_eq_true rfl⟩ ⟨Nat.le_of_ble_eq_true rfl, Nat.le_of_ble_eq_true rfl⟩ (Nat.le_of_ble_eq_true rfl) rfl dJ0_charAt_5068e_1 (fun _ => ?_)
  refine f_if_eq hC 16 dJ0_charAt_5068e_4 (by decide) (fun h => absurd h (by decide)) (fun _ => ?_)
  refine f_aload_n hC dJ0_charAt_5068e_7 rfl 0 rfl ?_
  refine f_sva hC hi q_s1773 dJ0_charAt_5068e_8 ?_
  refine f_iload_n hC dJ0_charAt_5068e_11 rfl 1 rfl ?_
  refine f_callS hC [.ref (D.2 98 i), .int k] (c_lcharAt l D cy w i k t hi ht hok hk) q_s568 q_s147 q_s566 q_s567 h9_J1_charAt_3b067 ⟨Nat.le_of_ble_eq_true rfl, Nat.le_of_ble_eq_true rfl⟩ ⟨Nat.le_of_ble_eq_true rfl, Nat.le_of_ble_eq_true rfl⟩ (Nat.le_of_ble_eq_true rfl) rfl dJ0_charAt_5068e_12 (fun _ => ?_)
  exact f_zret hC hEn (fSm.rf w) (nar_c (by rw [← tOK_ch hok (Nat.not_le.mp fun h => hk (Or.inr h))]; exact fsc_ch0 _)) dJ0_charAt_5068e_15
theorem c_strlenG (l : Launch) (D : va_G) (cy : Nat → ClassId) (w : FW) (i : Nat) (t : List Int32) (hi : i < 33) (ht : fBy D i = t) : fSpec l D cy yJ0_length_8abf5 cJ0_length_8abf5 1 (some .int) { frames := 1, cells := 0, slots := 0, locals := 20 } [.ref (D.2 99 i)] w w (some (.int (nI t.length))) := by
  refine f_begin (by decide +kernel) (Nat.le_of_ble_eq_true rfl) (fun X hC hEn => ?_)
  show fAt X 0 0 1 w [(0, .ref (D.2 99 i))] [] 0
  refine f_aload_n hC dJ0_length_8abf5_0 rfl 0 rfl ?_
  refine f_sva hC hi q_s1773 dJ0_length_8abf5_1 ?_
  refine f_sal hC hi ht dJ0_length_8abf5_4 ?_
  refine f_aload_n hC dJ0_length_8abf5_5 rfl 0 rfl ?_
  refine f_callStr hC [] (c_coder l D cy w i hi) hi rfl q_s1188 q_s144 q_s1185 q_s1186 q_s1187 h9_J0_coder_7d493 ⟨Nat.le_of_ble_eq_true rfl, Nat.le_of_ble_eq_true rfl⟩ ⟨Nat.le_of_ble_eq_true rfl, Nat.le_of_ble_eq_true rfl⟩ (Nat.le_of_ble_eq_true rfl) rfl dJ0_length_8abf5_6 (fun _ => ?_)
  refine f_ishr hC dJ0_length_8abf5_9 ?_
  rw [show nI t.length >>> ((0 : Int32) &&& 31) = nI t.length from by simp]
  exact f_iret hC hEn (fSm.rf w) dJ0_length_8abf5_10
theorem c_charAt (l : Launch) (D : va_G) (cy : Nat → ClassId) (w : FW) (i : Nat) (k : Int32) (hi : i < 14) (hk : ¬ (k < 0 ∨ (fByt.getD i []).length ≤ k.toNatClampNeg)) : fSpec l D cy yJ0_charAt_5068e cJ0_charAt_5068e 2 (some .char) { frames := 3, cells := 0, slots := 0, locals := 64 } [.ref (D.2 99 i), .int k] w w (some (.int (fsc i k))) :=
  c_charAtG l D cy w i k (fByt.getD i []) (by omega) (fBy_l D (by omega)) (fByt_ok i (by omega)) hk
theorem c_strlen (l : Launch) (D : va_G) (cy : Nat → ClassId) (w : FW) (i : Nat) (hi : i < 14) : fSpec l D cy yJ0_length_8abf5 cJ0_length_8abf5 1 (some .int) { frames := 1, cells := 0, slots := 0, locals := 20 } [.ref (D.2 99 i)] w w (some (.int (fsl i))) :=
  c_strlenG l D cy w i (fByt.getD i []) (by omega) (fBy_l D (by omega))
