/-! MY LAYER: a world of four maps (kinds, lengths, ints, references), a judgement fAt over it, one row an instruction. -/
def lwA : List Cond := lw_tbl.filter goodWord
def fNst (w : Cond) : Bool := match w with
  | .methodLinkNest .. => true
  | .fieldLinkNest .. => true
  | .castable .. => true
  | .declares _ => true
  | .privateMethod _ => true
  | .arrayOver ty => (match ty with | .object _ => true | _ => false)
  | _ => false
def lwN : List Cond := lw_tbl.filter fNst
theorem mA {w : Cond} (i : Nat) (h : lw_tbl[i]? = some w) (hg : goodWord w = true) : w ∈ lwA := List.mem_filter.mpr ⟨List.mem_of_getElem? h, hg⟩
theorem mN {w : Cond} (i : Nat) (h : lw_tbl[i]? = some w) (hg : fNst w = true) : w ∈ lwN := List.mem_filter.mpr ⟨List.mem_of_getElem? h, hg⟩
theorem gA {hd hd' : Cond} (h : hd' ∈ lwA) : GoodIn (hd :: lwA) (hd' :: lwA) := by
  intro w hw
  have h1 : w ∈ lwA := by
    rcases List.mem_cons.mp hw with rfl | h2
    · exact h
    · exact h2
  exact ⟨List.mem_cons_of_mem _ h1, good_of_word (List.mem_filter.mp h1).2⟩
/-- the classes whose objects a world holds, by their places -/
def fCl : List vw_C := [(RX0, TX0, 5), (RX1, TX1, 10), (RX2, TX2, 8), (RX3, TX3, 2), (RX4, TX4, 15), (RJ4, TJ4, 4), (RJ0, TJ0, 4)]
def fN : Nat → Nat := fun ci => match ci with
  | 0 => 5
  | 1 => 10
  | 2 => 8
  | 3 => 2
  | 4 => 15
  | _ => 4
def fRf (ci k : Nat) : Bool := match ci with
  | 0 => false
  | 1 => k == 0 || (k == 2 || (k == 3 || k == 4))
  | 2 => k == 0 || (k == 6 || k == 7)
  | 3 => k == 0
  | 4 => k == 0 || (k == 1 || (k == 2 || (k == 4 || (k == 6 || (k == 7 || k == 9)))))
  | _ => k == 0
theorem fN_ok {ci N : Nat} {C : String} {T : u_T} (hc : fCl[ci]? = some (C, T, N)) : fN ci = N ∧ ci < 7 := by
  have hl : ci < 7 := (List.getElem?_eq_some_iff.mp hc).1
  have : ci = 0 ∨ ci = 1 ∨ ci = 2 ∨ ci = 3 ∨ ci = 4 ∨ ci = 5 ∨ ci = 6 := by omega
  rcases this with rfl | rfl | rfl | rfl | rfl | rfl | rfl <;> (cases hc; exact ⟨rfl, hl⟩)
/-- a world: the kind of each address (0: not of it; ci + 1: an object of class ci; 10 char, 11 int, 12 boolean arrays; 13, 14 arrays of references), the length of each array, ints and references by component, address, index -/
abbrev FW : Type := (Nat → Nat) × (Nat → Nat) × (Nat → Nat → Nat → Int32) × (Nat → Nat → Nat → Nat)
def gI (w : FW) (c a i : Nat) : Int32 := w.2.2.1 c a i
def gR (w : FW) (c a i : Nat) : Nat := w.2.2.2 c a i
def sI (w : FW) (c a i : Nat) (v : Int32) : FW := (w.1, w.2.1, fun c' a' i' => if c' = c ∧ a' = a ∧ i' = i then v else w.2.2.1 c' a' i', w.2.2.2)
def sR (w : FW) (c a i : Nat) (v : Nat) : FW := (w.1, w.2.1, w.2.2.1, fun c' a' i' => if c' = c ∧ a' = a ∧ i' = i then v else w.2.2.2 c' a' i')
def fV (w : FW) (ci a k : Nat) : Value := if fRf ci k = true then .ref (gR w (100 * ci + k) a 0) else .int (gI w (100 * ci + k) a 0)
def ftys (cy : Nat → ClassId) : List (ClassId × FieldType) := [(cy 0, .char), (cy 1, .int), (cy 2, .boolean), (cy 3, .object RX1), (cy 4, .object RX2), (cy 5, .long), (cy 6, .byte), (cy 7, .object "java/lang/String")]
def fat (D : va_G) (cy : Nat → ClassId) (w : FW) (H : Heap) (a : Nat) : Prop :=
  (∀ ci, w.1 a = ci + 1 → ci < 7 → t_OB a (D.1 ci) (fN ci) (D.2 ci) H (fV w ci a)) ∧
  (∀ j, w.1 a = 10 + j → j < 3 → H[a]? = some (arrV (cy j) (w.2.1 a) (fun i => .int (gI w (600 + j) a i)))) ∧
  ∀ j, w.1 a = 13 + j → j < 2 → H[a]? = some (arrV (cy (3 + j)) (w.2.1 a) (fun i => .ref (gR w (603 + j) a i)))
def FH (D : va_G) (cy : Nat → ClassId) (w : FW) (H : Heap) : Prop := (∀ a, w.1 a ≠ 0 → a < H.size) ∧ ∀ a, fat D cy w H a
theorem gI_s (w : FW) (c a i : Nat) (v : Int32) : gI (sI w c a i v) c a i = v := by simp [gI, sI]
theorem gI_n {w : FW} {c a i c' a' i' : Nat} {v : Int32} (h : ¬ (c' = c ∧ a' = a ∧ i' = i)) : gI (sI w c a i v) c' a' i' = gI w c' a' i' := by
  show (if c' = c ∧ a' = a ∧ i' = i then v else w.2.2.1 c' a' i') = _
  rw [if_neg h]; rfl
theorem gR_s (w : FW) (c a i : Nat) (v : Nat) : gR (sR w c a i v) c a i = v := by simp [gR, sR]
theorem gR_n {w : FW} {c a i c' a' i' : Nat} {v : Nat} (h : ¬ (c' = c ∧ a' = a ∧ i' = i)) : gR (sR w c a i v) c' a' i' = gR w c' a' i' := by
  show (if c' = c ∧ a' = a ∧ i' = i then v else w.2.2.2 c' a' i') = _
  rw [if_neg h]; rfl
theorem gI_R (w : FW) (c a i : Nat) (v : Nat) (c' a' i' : Nat) : gI (sR w c a i v) c' a' i' = gI w c' a' i' := rfl
theorem gR_I (w : FW) (c a i : Nat) (v : Int32) (c' a' i' : Nat) : gR (sI w c a i v) c' a' i' = gR w c' a' i' := rfl
theorem fat.kept {D : va_G} {cy : Nat → ClassId} {w w' : FW} {H H1 : Heap} {a : Nat} (h : fat D cy w H a) (hk : w'.1 a = w.1 a) (hl : w'.2.1 a = w.2.1 a) (hq : H1[a]? = H[a]?) (hI : ∀ c i, gI w' c a i = gI w c a i) (hR : ∀ c i, gR w' c a i = gR w c a i) : fat D cy w' H1 a := by
  have hV : ∀ ci k, fV w ci a k = fV w' ci a k := by
    intro ci k
    unfold fV
    rw [hI, hR]
  refine ⟨fun ci h1 h2 => ((h.1 ci (hk ▸ h1) h2).kept hq).to (fun k _ => hV ci k), fun j h1 h2 => ?_, fun j h1 h2 => ?_⟩
  · rw [hq, h.2.1 j (hk ▸ h1) h2, hl]
    simp only [hI]
  · rw [hq, h.2.2 j (hk ▸ h1) h2, hl]
    simp only [hR]
theorem FH.put {D : va_G} {cy : Nat → ClassId} {w w' : FW} {H H1 : Heap} {a : Nat} (h : FH D cy w H) (hk : w'.1 = w.1) (hl : w'.2.1 = w.2.1) (hI : ∀ q c i, q ≠ a → gI w' c q i = gI w c q i) (hR : ∀ q c i, q ≠ a → gR w' c q i = gR w c q i) (hz : H1.size = H.size) (oq : ∀ q, q ≠ a → H1[q]? = H[q]?) (ha : fat D cy w' H1 a) : FH D cy w' H1 := by
  refine ⟨fun q hq => by rw [hz]; exact h.1 q (by rw [← hk]; exact hq), fun q => ?_⟩
  by_cases e : q = a
  · rw [e]; exact ha
  · exact (h.2 q).kept (by rw [hk]) (by rw [hl]) (oq q e) (fun c i => hI q c i e) (fun c i => hR q c i e)
theorem fat_ob {D : va_G} {cy : Nat → ClassId} {w : FW} {H : Heap} {a ci : Nat} (hk : w.1 a = ci + 1) (hc : ci < 7) (h : t_OB a (D.1 ci) (fN ci) (D.2 ci) H (fV w ci a)) : fat D cy w H a := by
  refine ⟨fun c h1 h2 => ?_, fun j h1 h2 => ?_, fun j h1 h2 => ?_⟩
  · have : c = ci := by omega
    subst this; exact h
  · omega
  · omega
theorem fat_ai {D : va_G} {cy : Nat → ClassId} {w : FW} {H : Heap} {a j : Nat} (hk : w.1 a = 10 + j) (hj : j < 3) (h : H[a]? = some (arrV (cy j) (w.2.1 a) (fun i => .int (gI w (600 + j) a i)))) : fat D cy w H a := by
  refine ⟨fun c h1 h2 => ?_, fun k h1 h2 => ?_, fun k h1 h2 => ?_⟩
  · omega
  · have : k = j := by omega
    subst this; exact h
  · omega
theorem fat_ar {D : va_G} {cy : Nat → ClassId} {w : FW} {H : Heap} {a j : Nat} (hk : w.1 a = 13 + j) (hj : j < 2) (h : H[a]? = some (arrV (cy (3 + j)) (w.2.1 a) (fun i => .ref (gR w (603 + j) a i)))) : fat D cy w H a := by
  refine ⟨fun c h1 h2 => ?_, fun k h1 h2 => ?_, fun k h1 h2 => ?_⟩
  · omega
  · omega
  · have : k = j := by omega
    subst this; exact h
/-- what a method may change: the world's cells and those that are made -/
def fdom (w : FW) (sz : Nat) : Nat → Prop := fun q => w.1 q ≠ 0 ∨ sz ≤ q
/-- the String constants: class, entry, text; the first 33 are read (14 of the class, 19 of the law), the others are messages alone -/
def fStrL : List (String × Nat × String) := [("FerryTickets$Half", 50, "aeiou"), ("FerryTickets", 484, "!"), ("FerryTickets", 460, "n@:#>#/#"), ("FerryTickets", 462, "p#h=#"), ("FerryTickets", 464, "w#h+#"), ("FerryTickets", 466, "t#"), ("FerryTickets", 468, "l#h"), ("FerryTickets", 470, "f#h"), ("FerryTickets", 472, "g#h"), ("FerryTickets", 474, "m#=#"), ("FerryTickets", 476, "c#"), ("FerryTickets", 478, "o#"), ("FerryTickets", 480, "x#"), ("FerryTickets", 482, "d"), ("FerryTicketsLaw", 215, "bada"), ("FerryTicketsLaw", 217, "kilu"), ("FerryTicketsLaw", 219, "mo"), ("FerryTicketsLaw", 221, "ruda"), ("FerryTicketsLaw", 223, "tutela"), ("FerryTicketsLaw", 225, "sat"), ("FerryTicketsLaw", 230, "n"), ("FerryTicketsLaw", 235, ":"), ("FerryTicketsLaw", 240, ">"), ("FerryTicketsLaw", 242, "/"), ("FerryTicketsLaw", 282, "d;"), ("FerryTicketsLaw", 284, "w"), ("FerryTicketsLaw", 286, "o+"), ("FerryTicketsLaw", 288, "m"), ("FerryTicketsLaw", 290, "="), ("FerryTicketsLaw", 292, "g"), ("FerryTicketsLaw", 294, "r"), ("FerryTicketsLaw", 296, "o"), ("FerryTicketsLaw", 298, ""), ("FerryTickets", 388, "there is no such ticket, puncher or pier"), ("FerryTickets", 390, "an argument is out of range"), ("FerryTickets", 392, "it is refused"), ("FerryTickets", 432, "there is no such ticket"), ("FerryTickets", 144, "there is no such number of a ticket"), ("FerryTickets", 155, "there is no such place in the word"), ("FerryTickets", 211, "there is no such number of a half"), ("FerryTickets", 434, "the half is not punched"), ("FerryTickets", 228, "with no mood would the half be read as its word"), ("FerryTickets", 230, "the water is out of range"), ("FerryTickets", 266, "the out half was not ridden"), ("FerryTickets", 285, "this is no letter of a word"), ("FerryTickets", 290, "there is no such measure"), ("FerryTickets", 295, "there is no such place"), ("FerryTickets", 327, "nothing was refused"), ("FerryTickets", 342, "there is no such account"), ("FerryTickets", 346, "there are no tickets"), ("FerryTickets", 351, "no half is punched"), ("FerryTickets", 356, "a character is not from 32 to 126"), ("FerryTickets", 358, "the buffer would hold more than 60 characters"), ("FerryTickets", 363, "the input is malformed"), ("FerryTickets", 374, "an order is refused"), ("FerryTickets", 384, "there is no change to undo"), ("FerryTickets", 386, "there is no snapshot")]
def fByt : List (List Int32) := [[97, 101, 105, 111, 117], [33], [110, 64, 58, 35, 62, 35, 47, 35], [112, 35, 104, 61, 35], [119, 35, 104, 43, 35], [116, 35], [108, 35, 104], [102, 35, 104], [103, 35, 104], [109, 35, 61, 35], [99, 35], [111, 35], [120, 35], [100], [98, 97, 100, 97], [107, 105, 108, 117], [109, 111], [114, 117, 100, 97], [116, 117, 116, 101, 108, 97], [115, 97, 116], [110], [58], [62], [47], [100, 59], [119], [111, 43], [109], [61], [103], [114], [111], []]
/-- the text at place i; 33: a String of one's own, its length at D.2 96 0, its letters at D.2 95 j -/
def fBy (D : va_G) (i : Nat) : List Int32 := if i = 33 then (List.range (D.2 96 0)).map (fun j => nI (D.2 95 j)) else fByt.getD i []
theorem fBy_l (D : va_G) {i : Nat} (h : i < 33) : fBy D i = fByt.getD i [] := if_neg (by omega)
def fDg (j : Nat) : Value := .int (nI (48 + j % 10))
/-- what nobody writes: the constants that are read (addresses D.2 99 i, bytes at D.2 98 i), five statics of the JDK's -/
def fHx (D : va_G) (A : Nat → Prop) (U : State) (H : Heap) : Prop :=
  (∀ i, i < 33 → va_O "java/lang/String" (D.2 99 i) A U H ∧ va_OF "java/lang/String" "coder" "B" (.int 0) (D.2 99 i) A U H ∧ va_OF "java/lang/String" "value" "[B" (.ref (D.2 98 i)) (D.2 99 i) A U H ∧ va_T .byte (D.2 98 i) (fBy D i).length (fun j => .int ((fBy D i).getD j 0)) A U H) ∧
  vx_Zq Bundle.tN "UNASSIGNED_STACK" Bundle.steD A U H ∧ vx_Zq Bundle.tN "SUPPRESSED_SENTINEL" Bundle.listD A U H ∧
  va_Z "java/lang/String" "COMPACT_STRINGS" "Z" (.int 1) A U H ∧ va_Zq "jdk/internal/util/Preconditions" "SIOOBE_FORMATTER" "Ljava/util/function/BiFunction;" A U H ∧ va_Z "java/lang/Integer" "DigitOnes" "[B" (.ref (D.2 97 0)) A U H ∧ va_T .byte (D.2 97 0) 100 fDg A U H
theorem fHx.moved {D : va_G} {A : Nat → Prop} {u U : State} {H : Heap} (hvm : u.vm.Alike U.vm) (h : fHx D A u H) : fHx D A U H :=
  ⟨fun i hi => ⟨va_O.moved hvm (h.1 i hi).1, va_OF.moved hvm (h.1 i hi).2.1, va_OF.moved hvm (h.1 i hi).2.2.1, va_T.moved hvm (h.1 i hi).2.2.2⟩, vx_Zq.moved hvm h.2.1, vx_Zq.moved hvm h.2.2.1, va_Z.moved hvm h.2.2.2.1, va_Zq.moved hvm h.2.2.2.2.1, va_Z.moved hvm h.2.2.2.2.2.1, va_T.moved hvm h.2.2.2.2.2.2⟩
theorem fHx.kept {D : va_G} {A : Nat → Prop} {U : State} {H H1 : Heap} (h : fHx D A U H) (hq : ∀ a : Nat, a < H.size → ¬ A a → H1[a]? = H[a]?) : fHx D A U H1 :=
  ⟨fun i hi => ⟨(h.1 i hi).1.kept hq, (h.1 i hi).2.1.kept hq, (h.1 i hi).2.2.1.kept hq, (h.1 i hi).2.2.2.kept hq⟩, h.2.1.kept hq, h.2.2.1.kept hq, h.2.2.2.1.kept hq, h.2.2.2.2.1.kept hq, h.2.2.2.2.2.1.kept hq, h.2.2.2.2.2.2.kept hq⟩
theorem fHx.narrow {D : va_G} {A B : Nat → Prop} {U : State} {H : Heap} (h : fHx D A U H) (hAB : ∀ q, B q → A q) : fHx D B U H :=
  ⟨fun i hi => ⟨(h.1 i hi).1.narrow hAB, (h.1 i hi).2.1.narrow hAB, (h.1 i hi).2.2.1.narrow hAB, (h.1 i hi).2.2.2.narrow hAB⟩, h.2.1.narrow hAB, h.2.2.1.narrow hAB, h.2.2.2.1.narrow hAB, h.2.2.2.2.1.narrow hAB, h.2.2.2.2.2.1.narrow hAB, h.2.2.2.2.2.2.narrow hAB⟩
/-- what is known of the tables and of what nobody writes -/
def fEnv (D : va_G) (cy : Nat → ClassId) (A : Nat → Prop) (U : State) : Prop := va_K D fCl (ftys cy) U ∧ (∀ w ∈ lwN, va_Nw w U) ∧ (∀ (i : Nat) (q : String × Nat × String), fStrL[i]? = some q → vk_R q.1 q.2.1 q.2.2 (D.2 99 i) U) ∧ fHx D A U U.heap
theorem fNw_warmP {x : MethodName} {s U : State} (hW : s.WarmedH U.vm) (hZ : va_Nw (.privateMethod x) s) : va_Nw (.privateMethod x) U := va_tabs rfl (rfl : (s.setVm U.vm).vm = U.vm) (by rw [Cond.privateMethod_setVm hW.alike]; exact hZ)
theorem fNst_warm {w : Cond} {s U : State} (hg : fNst w = true) (hW : s.WarmedH U.vm) (h : va_Nw w s) : va_Nw w U := by
  by_cases ho : ∃ C : String, w = .arrayOver (.object C)
  · obtain ⟨C, rfl⟩ := ho
    exact va_AO.moved (C := C) hW.alike h
  · cases w <;> first | exact va_Nw.warmM hW h | exact va_Nw.warmF hW h | exact va_Nw.warmC hW h | exact va_Nw.warmD hW h | exact fNw_warmP hW h | (rename_i ty; cases ty <;> first | exact absurd ⟨_, rfl⟩ ho | (simp [fNst] at hg)) | (simp [fNst] at hg)
theorem fNst_same {w : Cond} {u U : State} (hg : fNst w = true) (hv : U.vm = u.vm) (h : va_Nw w u) : va_Nw w U := by
  by_cases ho : ∃ C : String, w = .arrayOver (.object C)
  · obtain ⟨C, rfl⟩ := ho
    exact va_AO.moved (C := C) (by rw [hv]; exact Vm.Alike.refl _) h
  · have ht : w.onTables = true := by
      cases w <;> first | rfl | (rename_i ty; cases ty <;> first | exact absurd ⟨_, rfl⟩ ho | (simp [fNst] at hg)) | (simp [fNst] at hg)
    exact va_Nw.same ht hv.symm h
theorem fEnv.pass {D : va_G} {cy : Nat → ClassId} {A B : Nat → Prop} {s U : State} {locs : List Loc} (h : fEnv D cy A s) (hW : s.WarmedH U.vm) (hS : va_S A s.heap U.heap locs) (hAB : ∀ q, B q → A q) : fEnv D cy B U :=
  ⟨va_K.moved hW.alike h.1, fun w hw => fNst_warm (List.mem_filter.mp hw).2 hW (h.2.1 w hw), fun i q hq => (h.2.2.1 i q hq).warm hW, ((h.2.2.2.kept hS.2.1).moved hW.alike).narrow hAB⟩
theorem fEnv.blind {D : va_G} {cy : Nat → ClassId} {A : Nat → Prop} {U : State} (g : JFrame) (mk : MethodId) (a : Array Value) (h : fEnv D cy A U) : fEnv D cy A (U.calling g mk a) :=
  ⟨va_K.moved (u := U) (U := U.calling g mk a) (Vm.Alike.refl U.vm) h.1, fun w hw => fNst_same (List.mem_filter.mp hw).2 (u := U) (U := U.calling g mk a) rfl (h.2.1 w hw), fun i q hq => vk_R.same (u := U) (U := U.calling g mk a) rfl (h.2.2.1 i q hq), fHx.moved (u := U) (U := U.calling g mk a) (Vm.Alike.refl U.vm) h.2.2.2⟩
def fPc (D : va_G) (cy : Nat → ClassId) (As : List Value) (w : FW) (sz : Nat) : Array Value → State → Prop := va_Pc As (fun U => U.heap.size = sz ∧ FH D cy w U.heap ∧ fEnv D cy (fdom w sz) U)
/-- the same kinds and lengths -/
def fSm (w' w : FW) : Prop := w'.1 = w.1 ∧ w'.2.1 = w.2.1
theorem fSm.rf (w : FW) : fSm w w := ⟨rfl, rfl⟩
theorem fSm.tr {w1 w2 w3 : FW} (h : fSm w1 w2) (h' : fSm w2 w3) : fSm w1 w3 := ⟨h.1.trans h'.1, h.2.trans h'.2⟩
theorem fSm.k {w1 w0 : FW} (h : fSm w1 w0) {a k : Nat} (g : w0.1 a = k) : w1.1 a = k := by rw [h.1]; exact g
theorem fSm.v {w1 w0 : FW} (h : fSm w1 w0) {a : Nat} {i : Int32} (g : ¬ (i < 0 ∨ w0.2.1 a ≤ i.toNatClampNeg)) : vp_in i (w1.2.1 a) := by rw [h.2]; exact g
def fQ (D : va_G) (cy : Nat → ClassId) (rv : Option Value) (w w' : FW) (A : Nat → Prop) : Array Value → State → Outcome → State → Prop := fun _ st oc t => oc = .returned rv ∧ FH D cy w' t.heap ∧ fSm w' w ∧ va_F A st t
def fSpec (l : Launch) (D : va_G) (cy : Nat → ClassId) (y : MethodName) (cc : ByteArray) (nL : Nat) (ret : Option FieldType) (rm : Room) (As : List Value) (w w' : FW) (rv : Option Value) : Prop :=
  ∀ sz : Nat, Met l y (.code y cc nL ret :: lwA) rm (fPc D cy As w sz) (fQ D cy rv w w' (fdom w sz)) rm.cells rm.slots (fdom w sz)
/-- the walk's fixed things -/
abbrev FX : Type := Program × Launch × Env × Room × State × MethodId × Array Value × List Frame × Method × Code × (State → Prop) × va_G × (Nat → ClassId) × (Nat → Prop)
def fOK (X : FX) (cc : ByteArray) (nL : Nat) (own : String) (rm : Room) (l : Launch) (D : va_G) (cy : Nat → ClassId) : Prop := match X with
  | (p, l', e, R, s, m, args, below, meth, c, Q, D', cy', A) => p.tables.exec = Jvm.exec ∧ c.code = cc ∧ c.maxLocals = nL ∧ s.vm.findClass own = some m.cls ∧ (∀ w ∈ lwA, w.before args s = true) ∧ fEnv D cy A s ∧ (∀ q, s.heap.size ≤ q → A q) ∧ R = rm ∧ l' = l ∧ D' = D ∧ cy' = cy
def fAt (X : FX) (cells slots n : Nat) (w : FW) (L : List (Nat × Value)) (st : List Value) (pc : Nat) : Prop := match X with
  | (p, l, e, R, s, m, args, below, meth, c, Q, D, cy, A) => ∀ (H : Heap) (locs : List Loc) (ls : Array Slot), FH D cy w H → (∀ q, w.1 q ≠ 0 → A q) → va_S A s.heap H locs → lv_has ls n L → W p l e R s m args below meth c H locs cells slots Q (F0 m pc ls st)
def fEnd (X : FX) (ret : Option FieldType) (rv : Option Value) (w0 w' : FW) (mc ms : Nat) : Prop := match X with
  | (p, l, e, R, s, m, args, below, meth, c, Q, D, cy, A) => meth.sig.returnType = ret ∧ meth.locks = false ∧ Q = MQ below (fQ D cy rv w0 w' A) args s mc ms A
theorem Met.ofWF {l : Launch} {y : MethodName} {ws ws' : List Cond} {rm : Room} {Pc : Array Value → State → Prop} {Qc : Array Value → State → Outcome → State → Prop} {mc ms : Nat} {free : Addr → Prop} {cc : ByteArray} {maxL : Nat} {ret : Option FieldType}
    (hy : plainFor y = true) (hw : ws = Cond.code y cc maxL ret :: ws')
    (body : ∀ p e s m args below meth c s₁, BodyLoose p l y (headSpec ws rm) cc maxL ret e s m args below meth c s₁ → c.maxLocals = maxL → Pc args s →
      W p l e (headSpec ws rm).room s m args below meth c s.heap [] 0 0 (MQ below Qc args s mc ms free) (entryFrame m args maxL)) : Met l y ws rm Pc Qc mc ms free := by
  refine MetFree.of_bodySF (code := cc) (maxLocals := maxL) (ret := ret) hy ?_ ?_
  · intro args s m h hn
    obtain ⟨meth, c, h1, h2, h3, h4, h5, h6, -, -⟩ := Cond.code_spec hn (atoms_spec (ws := ws) h _ (by rw [hw]; exact List.mem_cons_self))
    exact ⟨meth, c, h1, h2, h3, h4, h5, h6⟩
  · intro p e s m args below meth c s₁ B hml hP _
    have hh0 : s₁.heap = s.heap := by rw [B.state]; rfl
    obtain ⟨t, a1, o, b1, b2, b3⟩ := body p e s m args below meth c s₁ B hml hP s₁ hh0 (Stand.of_body B)
    exact ⟨t, o, a1, b1, b2, ⟨b3.1, b3.2⟩⟩
theorem f_begin {l : Launch} {D : va_G} {cy : Nat → ClassId} {y : MethodName} {cc : ByteArray} {nL : Nat} {ret : Option FieldType} {rm : Room} {As : List Value} {w w' : FW} {rv : Option Value} (hy : plainFor y = true) (hn : (lg_sl As).length ≤ nL)
    (body : ∀ X : FX, fOK X cc nL y.cls rm l D cy → fEnd X ret rv w w' rm.cells rm.slots → fAt X 0 0 nL w (lv_args 0 As) [] 0) : fSpec l D cy y cc nL ret rm As w w' rv := by
  intro sz
  refine Met.ofWF (cc := cc) (maxL := nL) (ret := ret) hy rfl ?_
  intro p e s m args below meth c s₁ B hml hv
  obtain ⟨rfl, hsz, hP, hE⟩ := hv
  subst hsz
  have hts := atoms_spec (ws := .code y cc nL ret :: lwA) B.pre
  have hl := lv_entry As hn
  rw [lg_entry_eq]
  exact body (p, l, e, rm, s, m, As.toArray, below, meth, c, _, D, cy, fdom w s.heap.size) ⟨B.exec, B.bytes, hml, findClass_of_methodNamed B.named, fun w hw => hts w (List.mem_cons_of_mem _ hw), hE, fun q h => Or.inr h, rfl, rfl, rfl, rfl⟩ ⟨B.returns, B.notSynchronized, rfl⟩ s.heap [] _ hP (fun q h => Or.inl h) va_S.rf hl
