/-! The law's wrappers: pinned rows of longs and doubles, calls that may throw, handlers -/
/-- classes of exceptions that are not each other's: (thrown, named by an earlier handler) -/
def ncL : List (String × String) := [("java/lang/IllegalStateException", "java/lang/IllegalArgumentException"), ("java/lang/IllegalArgumentException", "java/lang/IndexOutOfBoundsException"), ("java/lang/UnsupportedOperationException", "java/lang/IllegalArgumentException"), ("java/lang/UnsupportedOperationException", "java/lang/IndexOutOfBoundsException"), ("java/util/NoSuchElementException", "java/lang/IllegalArgumentException"), ("java/util/NoSuchElementException", "java/lang/IndexOutOfBoundsException")]
def gNc (U : State) : Prop := ∀ q ∈ ncL, va_Nc q.1 q.2 U
theorem gNc.moved {u U : State} (hvm : u.vm.Alike U.vm) (h : gNc u) : gNc U := fun q hq => va_Nc.moved hvm (h q hq)
def fWPc (D : va_G) (cy : Nat → ClassId) (As : List Value) (w : FW) (sz o : Nat) (c : Cell) : Array Value → State → Prop := va_Pc As (fun U => U.heap.size = sz ∧ FH D cy w U.heap ∧ w.1 o = 0 ∧ o < sz ∧ U.heap[o]? = some c ∧ fEnv D cy (gdom w sz o) U ∧ gNc U)
def fWQ (D : va_G) (cy : Nat → ClassId) (w w' : FW) (o : Nat) (c : Cell) (k : Int32) (A : Nat → Prop) : Array Value → State → Outcome → State → Prop := fun _ st oc t => oc = .returned (some (.int k)) ∧ FH D cy w' t.heap ∧ fSm w' w ∧ t.heap[o]? = some c ∧ va_F A st t
def fWSpec (l : Launch) (D : va_G) (cy : Nat → ClassId) (y : MethodName) (cc : ByteArray) (nL : Nat) (hh : List (Nat × Nat × Nat × Nat)) (rm : Room) (As : List Value) (w w' : FW) (o : Nat) (c c' : Cell) (k : Int32) : Prop :=
  l.stackTraces = false → ∀ sz : Nat, Met l y (.codeWith y cc nL (some .int) hh :: lwA) rm (fWPc D cy As w sz o c) (fWQ D cy w w' o c' k (gdom w sz o)) rm.cells rm.slots (gdom w sz o)
def fEndW (X : FX) (hh : List (Nat × Nat × Nat × Nat)) (w0 w' : FW) (o : Nat) (c' : Cell) (k : Int32) (mc ms : Nat) : Prop := match X with
  | (p, l, e, R, s, m, args, below, meth, c, Q, D, cy, A) => meth.sig.returnType = some .int ∧ meth.locks = false ∧ c.exceptionTable.toList = tableOf hh ∧ l.stackTraces = false ∧ gNc s ∧ Q = MQ below (fWQ D cy w0 w' o c' k A) args s mc ms A
theorem fW_st {X : FX} {cc : ByteArray} {nL : Nat} {own : String} {rm : Room} {l : Launch} {D : va_G} {cy : Nat → ClassId} {hh : List (Nat × Nat × Nat × Nat)} {w0 w' : FW} {o : Nat} {c' : Cell} {k : Int32} {mc ms : Nat} (hC : fOK X cc nL own rm l D cy) (hEn : fEndW X hh w0 w' o c' k mc ms) : l.stackTraces = false := by
  obtain ⟨p, l', e, R, s, m, args, below, meth, c, Q, D', cy', A⟩ := X
  obtain ⟨hx, hb, hml, hown, hts, hE, hA, rfl, rfl, rfl, rfl⟩ := hC
  exact hEn.2.2.2.1
theorem fWPc_blind {D : va_G} {cy : Nat → ClassId} {As : List Value} {w : FW} {sz o : Nat} {c : Cell} : FrameBlind (fWPc D cy As w sz o c) := by
  intro a U g mk q
  obtain ⟨q0, q1, q2, q3, q4, q5, q6, q7⟩ := q
  exact ⟨q0, q1, q2, q3, q4, q5, q6.blind g mk a, gNc.moved (u := U) (U := U.calling g mk a) (Vm.Alike.refl U.vm) q7⟩
theorem fw_begin {l : Launch} {D : va_G} {cy : Nat → ClassId} {y : MethodName} {cc : ByteArray} {nL : Nat} {hh : List (Nat × Nat × Nat × Nat)} {rm : Room} {As : List Value} {w w' : FW} {o : Nat} {c0 c' : Cell} {k : Int32} (hy : plainName y.cls = true) (hn : (lg_sl As).length ≤ nL)
    (body : ∀ (X : FX) (h : Nat), fOK X cc nL y.cls rm l D cy → fEndW X hh w w' o c' k rm.cells rm.slots → w.1 o = 0 → o < h → gAt X 0 0 nL w h (gE1 o (some (.inl c0))) (lv_args 0 As) [] 0) : fWSpec l D cy y cc nL hh rm As w w' o c0 c' k := by
  intro hst sz
  refine va_MetW (cc := cc) (maxL := nL) (ret := some .int) (hh := hh) hy rfl ?_
  intro p e s m args below meth c s₁ B hml hv
  obtain ⟨rfl, hsz, hP, hb0, hb1, hT, hE, hN⟩ := hv
  subst hsz
  have hts := atoms_spec (ws := .codeWith y cc nL (some .int) hh :: lwA) B.pre
  have htab := vx_table (x := y) B (hts _ List.mem_cons_self)
  have hl := lv_entry As hn
  rw [lg_entry_eq]
  exact body (p, l, e, rm, s, m, As.toArray, below, meth, c, _, D, cy, gdom w s.heap.size o) s.heap.size ⟨B.exec, B.bytes, hml, findClass_of_methodNamed B.named, fun w hw => hts w (List.mem_cons_of_mem _ hw), hE, fun q h => Or.inr (Or.inl h), rfl, rfl, rfl, rfl⟩ ⟨B.returns, B.notSynchronized, htab, hst, hN, rfl⟩ hb0 hb1 s.heap [] _ ⟨rfl, fun a x hx => by
    by_cases e : a = o
    · subst e
      rw [gE1_b] at hx
      cases hx
      exact ⟨hb0, Or.inr (Or.inr rfl), hb1, hT⟩
    · rw [show gE1 o _ a = none from gUp_n e] at hx
      cases hx⟩ hP (fun q h => Or.inl h) va_S.rf hl
/-- over the frame at pc the exception e is under way -/
def gXt (X : FX) (cells slots n : Nat) (w : FW) (h : Nat) (E : gE) (L : List (Nat × Value)) (ex : Nat) (pc : Nat) : Prop := match X with
  | (p, l, e, R, s, m, args, below, meth, c, Q, D, cy, A) => ∀ (H : Heap) (locs : List Loc) (ls : Array Slot) (q : Nat) (ce : Cell) (rest : List Value), gOn D w h E A H → FH D cy w H → (∀ q, w.1 q ≠ 0 → A q) → va_S A s.heap H locs → lv_has ls n L → H[q]? = some ce → ce.vm = .none → s.vm.findClass (exN ex) = some ce.cls → vx_W p l e R s m args below meth c H locs cells slots Q (F0 m pc ls rest) q
section GWRAP
variable {X : FX} {cc : ByteArray} {nL : Nat} {own : String} {rm : Room} {l : Launch} {D : va_G} {cy : Nat → ClassId} {cells slots pc h : Nat} {w w1 : FW} {E : gE} {L : List (Nat × Value)} {st stk : List Value}
variable {y : MethodName} {bytes : ByteArray} {maxL : Nat} {ret : Option FieldType} {rm1 : Room} {rv : Option Value} {b ci N i ex : Nat} {T : u_T}
theorem gOn.after {D : va_G} {w w1 : FW} {h : Nat} {E : gE} {A : Nat → Prop} {H H1 : Heap} (g : gOn D w h E A H) (hk : fSm w1 w) (hz : H.size ≤ H1.size) (hq : ∀ q, q < H.size → ¬ fdom w H.size q → H1[q]? = H[q]?) : gOn D w1 H1.size E A H1 :=
  ⟨rfl, fun a x hx => ⟨by rw [hk.1]; exact (g.2 a x hx).1, (g.2 a x hx).2.1, Nat.lt_of_lt_of_le (g.2 a x hx).2.2.1 hz, (g.2 a x hx).2.2.2.kept (hq a (g.2 a x hx).2.2.1 (fun z => z.elim (fun z => z (g.2 a x hx).1) (fun z => absurd (g.2 a x hx).2.2.1 (Nat.not_lt.mpr z))))⟩⟩
theorem g_callV (hC : fOK X cc nL own rm l D cy) (As : List Value) (hM : fSpec l D cy y bytes maxL ret rm1 (.ref b :: As) w w1 rv) (hcode : Cond.code y bytes maxL ret ∈ lwA) (hini : Cond.initialized y.cls ∈ lwA) (hlink : Cond.methodLink own i y ∈ lwA) (hinst : Cond.instanceMethod y ∈ lwA) (hsel : Cond.selects y.cls y y ∈ lwA) (hd9 : y.cls ≠ "java/lang/invoke/MethodHandle" ∧ y.cls ≠ "java/lang/invoke/VarHandle" ∧ (parseMethodDescriptor y.desc).map (fun d => d.parameters.length) = some As.length) (hcl : fCl[ci]? = some (y.cls, T, N)) (hk : w.1 b = ci + 1) (hR : rm1.frames + 1 ≤ rm.frames ∧ 8 + (maxL + 11) + rm1.locals ≤ rm.locals) (hcs : cells + rm1.cells ≤ rm.cells ∧ slots + rm1.slots ≤ rm.slots) (hcat : (st.map fun v => v.category).sum ≤ 8) (hstk : stk = As.reverse ++ .ref b :: st) (hd : decode cc pc = .ok (.invokevirtual i, 3)) (k : ∀ h', h ≤ h' → fSm w1 w → gAt X (cells + rm1.cells) (slots + rm1.slots) nL w1 h' E L (rv.toList ++ st) (pc + 3)) : gAt X cells slots nL w h E L stk pc := by
  obtain ⟨p, l', e, R, s, m, args, below, meth, c, Q, D', cy', A⟩ := X
  obtain ⟨hx, hb, hml, hown, hts, hE, hA, rfl, rfl, rfl, rfl⟩ := hC
  intro H locs ls hz h1 h2 h3 h4
  subst hstk
  have hz1 := hz.1
  subst hz1
  obtain ⟨cell, q1, q2, q3, q4⟩ := h1.ob hk (fN_ok hcl).2
  have hcls := (hE.1.1 ci _ hcl).2.1
  have hr : va_Run p l' e R s m args below meth c H locs cells slots rm1.cells rm1.slots (F0 m pc ls (As.reverse ++ .ref b :: st)) st (fQ D' cy' rv w w1 (fdom w H.size) (.ref b :: As).toArray) (fdom w H.size) := va_runV (As := As) (rest := st) (C := y.cls) ⟨hx, hb, hml, hown, hts⟩ (hM H.size) ⟨callB_of As.length hts (gA0 hcode) rfl rfl rfl (hts _ hini) (hts _ hlink) hd9 hR, hts _ hinst, hts _ hsel⟩ ⟨fPc_blind, ⟨cell, q1, by rw [q3]; rfl, by rw [q2]; exact hcls⟩, fun U hU hW => fPc_at hE h1 h2 h3 hA hU hW⟩ rfl rfl h4.1 rfl (lv_room hcat) hd hcs
  intro T hT X
  obtain ⟨v, st₀, t, T', LL, h0, X', hL, e1, e2, ⟨hv, hb9, hk9, hF⟩, st9⟩ := hr T hT X
  cases hv
  have hS9 := f_keep h0 e1 h2 h3 hA hL hF
  obtain ⟨hzz, hq⟩ := hF
  rw [h0] at hzz hq
  obtain ⟨t2, a1, b1⟩ := k T'.heap.size (by rw [e1]; exact hzz) hk9 T'.heap (locs ++ LL) ls (hz.after hk9 (by rw [e1]; exact hzz) (fun q h5 h6 => by rw [e1]; exact hq q h5 h6)) (by rw [e1]; exact hb9) (fun q h => h2 q (by rw [← hk9.1]; exact h)) hS9 h4 T' rfl X'
  exact ⟨t2, st9 t2 a1, b1⟩
theorem g_callS (hC : fOK X cc nL own rm l D cy) (As : List Value) (hM : fSpec l D cy y bytes maxL ret rm1 (As) w w1 rv) (hcode : Cond.code y bytes maxL ret ∈ lwA) (hini : Cond.initialized y.cls ∈ lwA) (hlink : Cond.methodLink own i y ∈ lwA) (hsta : Cond.static y ∈ lwA) (hd9 : y.cls ≠ "java/lang/invoke/MethodHandle" ∧ y.cls ≠ "java/lang/invoke/VarHandle" ∧ (parseMethodDescriptor y.desc).map (fun d => d.parameters.length) = some As.length) (hR : rm1.frames + 1 ≤ rm.frames ∧ 8 + (maxL + 11) + rm1.locals ≤ rm.locals) (hcs : cells + rm1.cells ≤ rm.cells ∧ slots + rm1.slots ≤ rm.slots) (hcat : (st.map fun v => v.category).sum ≤ 8) (hstk : stk = As.reverse ++ st) (hd : decode cc pc = .ok (.invokestatic i, 3)) (k : ∀ h', h ≤ h' → fSm w1 w → gAt X (cells + rm1.cells) (slots + rm1.slots) nL w1 h' E L (rv.toList ++ st) (pc + 3)) : gAt X cells slots nL w h E L stk pc := by
  obtain ⟨p, l', e, R, s, m, args, below, meth, c, Q, D', cy', A⟩ := X
  obtain ⟨hx, hb, hml, hown, hts, hE, hA, rfl, rfl, rfl, rfl⟩ := hC
  intro H locs ls hz h1 h2 h3 h4
  subst hstk
  have hz1 := hz.1
  subst hz1
  have hr : va_Run p l' e R s m args below meth c H locs cells slots rm1.cells rm1.slots (F0 m pc ls (As.reverse ++ st)) st (fQ D' cy' rv w w1 (fdom w H.size) (As).toArray) (fdom w H.size) := va_runS (As := As) (rest := st) ⟨hx, hb, hml, hown, hts⟩ (hM H.size) ⟨callB_of As.length hts (gA0 hcode) rfl rfl rfl (hts _ hini) (hts _ hlink) hd9 hR, hts _ hsta⟩ ⟨fPc_blind, fun U hU hW => fPc_at hE h1 h2 h3 hA hU hW⟩ rfl rfl h4.1 rfl (lv_room hcat) hd hcs
  intro T hT X
  obtain ⟨v, st₀, t, T', LL, h0, X', hL, e1, e2, ⟨hv, hb9, hk9, hF⟩, st9⟩ := hr T hT X
  cases hv
  have hS9 := f_keep h0 e1 h2 h3 hA hL hF
  obtain ⟨hzz, hq⟩ := hF
  rw [h0] at hzz hq
  obtain ⟨t2, a1, b1⟩ := k T'.heap.size (by rw [e1]; exact hzz) hk9 T'.heap (locs ++ LL) ls (hz.after hk9 (by rw [e1]; exact hzz) (fun q h5 h6 => by rw [e1]; exact hq q h5 h6)) (by rw [e1]; exact hb9) (fun q h => h2 q (by rw [← hk9.1]; exact h)) hS9 h4 T' rfl X'
  exact ⟨t2, st9 t2 a1, b1⟩
theorem g_callVR (hC : fOK X cc nL own rm l D cy) (hst : l.stackTraces = false) (As : List Value) (hM : fSpecX l D cy y bytes maxL ret rm1 (.ref b :: As) w w1 (.inl rv)) (hcode : Cond.code y bytes maxL ret ∈ lwA) (hini : Cond.initialized y.cls ∈ lwA) (hlink : Cond.methodLink own i y ∈ lwA) (hinst : Cond.instanceMethod y ∈ lwA) (hsel : Cond.selects y.cls y y ∈ lwA) (hd9 : y.cls ≠ "java/lang/invoke/MethodHandle" ∧ y.cls ≠ "java/lang/invoke/VarHandle" ∧ (parseMethodDescriptor y.desc).map (fun d => d.parameters.length) = some As.length) (hcl : fCl[ci]? = some (y.cls, T, N)) (hk : w.1 b = ci + 1) (hR : rm1.frames + 1 ≤ rm.frames ∧ 8 + (maxL + 11) + rm1.locals ≤ rm.locals) (hcs : cells + rm1.cells ≤ rm.cells ∧ slots + rm1.slots ≤ rm.slots) (hcat : (st.map fun v => v.category).sum ≤ 8) (hstk : stk = As.reverse ++ .ref b :: st) (hd : decode cc pc = .ok (.invokevirtual i, 3)) (k : ∀ h', h ≤ h' → fSm w1 w → gAt X (cells + rm1.cells) (slots + rm1.slots) nL w1 h' E L (rv.toList ++ st) (pc + 3)) : gAt X cells slots nL w h E L stk pc := by
  obtain ⟨p, l', e, R, s, m, args, below, meth, c, Q, D', cy', A⟩ := X
  obtain ⟨hx, hb, hml, hown, hts, hE, hA, rfl, rfl, rfl, rfl⟩ := hC
  intro H locs ls hz h1 h2 h3 h4
  subst hstk
  have hz1 := hz.1
  subst hz1
  obtain ⟨cell, q1, q2, q3, q4⟩ := h1.ob hk (fN_ok hcl).2
  have hcls := (hE.1.1 ci _ hcl).2.1
  have hr : vx_Run p l' e R s m args below meth c H locs cells slots rm1.cells rm1.slots (F0 m pc ls (As.reverse ++ .ref b :: st)) st (fQX D' cy' (.inl rv) w w1 (fdom w H.size) (Value.ref b :: As).toArray) (fXC D' cy' (.inl rv) w w1 (fdom w H.size)) (fdom w H.size) := vx_runV (As := As) (rest := st) (C := y.cls) ⟨hx, hb, hml, hown, hts⟩ (hM hst H.size) ⟨callB_of As.length hts (gA0 hcode) rfl rfl rfl (hts _ hini) (hts _ hlink) hd9 hR, hts _ hinst, hts _ hsel⟩ ⟨fPc_blind, ⟨cell, q1, by rw [q3]; rfl, by rw [q2]; exact hcls⟩, fun U hU hW => fPc_at hE h1 h2 h3 hA hU hW⟩ rfl rfl h4.1 rfl (lv_room hcat) hd hcs
  intro T hT X
  rcases hr T hT X with ⟨v, st₀, t, T', LL, h0, X', hL, e1, e2, ⟨rv', hq9, hv, hb9, hk9, hF⟩, st9⟩ | ⟨q, st₀, t, T', LL, E9, ce, h0, X', hL, e1, e2, ⟨e9, hq9, -⟩, -⟩
  · cases hq9
    cases hv
    have hS9 := f_keep h0 e1 h2 h3 hA hL hF
    obtain ⟨hzz, hq⟩ := hF
    rw [h0] at hzz hq
    obtain ⟨t2, a1, b1⟩ := k T'.heap.size (by rw [e1]; exact hzz) hk9 T'.heap (locs ++ LL) ls (hz.after hk9 (by rw [e1]; exact hzz) (fun q h5 h6 => by rw [e1]; exact hq q h5 h6)) (by rw [e1]; exact hb9) (fun q h => h2 q (by rw [← hk9.1]; exact h)) hS9 h4 T' rfl X'
    exact ⟨t2, st9 t2 a1, b1⟩
  · cases hq9
theorem g_callVT (hC : fOK X cc nL own rm l D cy) (hst : l.stackTraces = false) (As : List Value) (hM : fSpecX l D cy y bytes maxL ret rm1 (.ref b :: As) w w1 (.inr ex)) (hcode : Cond.code y bytes maxL ret ∈ lwA) (hini : Cond.initialized y.cls ∈ lwA) (hlink : Cond.methodLink own i y ∈ lwA) (hinst : Cond.instanceMethod y ∈ lwA) (hsel : Cond.selects y.cls y y ∈ lwA) (hd9 : y.cls ≠ "java/lang/invoke/MethodHandle" ∧ y.cls ≠ "java/lang/invoke/VarHandle" ∧ (parseMethodDescriptor y.desc).map (fun d => d.parameters.length) = some As.length) (hcl : fCl[ci]? = some (y.cls, T, N)) (hk : w.1 b = ci + 1) (hR : rm1.frames + 1 ≤ rm.frames ∧ 8 + (maxL + 11) + rm1.locals ≤ rm.locals) (hcs : cells + rm1.cells ≤ rm.cells ∧ slots + rm1.slots ≤ rm.slots) (hcat : (st.map fun v => v.category).sum ≤ 8) (hstk : stk = As.reverse ++ .ref b :: st) (hd : decode cc pc = .ok (.invokevirtual i, 3)) (k : ∀ h', h ≤ h' → fSm w1 w → gXt X (cells + rm1.cells) (slots + rm1.slots) nL w1 h' E L ex pc) : gAt X cells slots nL w h E L stk pc := by
  obtain ⟨p, l', e, R, s, m, args, below, meth, c, Q, D', cy', A⟩ := X
  obtain ⟨hx, hb, hml, hown, hts, hE, hA, rfl, rfl, rfl, rfl⟩ := hC
  intro H locs ls hz h1 h2 h3 h4
  subst hstk
  have hz1 := hz.1
  subst hz1
  obtain ⟨cell, q1, q2, q3, q4⟩ := h1.ob hk (fN_ok hcl).2
  have hcls := (hE.1.1 ci _ hcl).2.1
  have hr : vx_Run p l' e R s m args below meth c H locs cells slots rm1.cells rm1.slots (F0 m pc ls (As.reverse ++ .ref b :: st)) st (fQX D' cy' (.inr ex) w w1 (fdom w H.size) (Value.ref b :: As).toArray) (fXC D' cy' (.inr ex) w w1 (fdom w H.size)) (fdom w H.size) := vx_runV (As := As) (rest := st) (C := y.cls) ⟨hx, hb, hml, hown, hts⟩ (hM hst H.size) ⟨callB_of As.length hts (gA0 hcode) rfl rfl rfl (hts _ hini) (hts _ hlink) hd9 hR, hts _ hinst, hts _ hsel⟩ ⟨fPc_blind, ⟨cell, q1, by rw [q3]; rfl, by rw [q2]; exact hcls⟩, fun U hU hW => fPc_at hE h1 h2 h3 hA hU hW⟩ rfl rfl h4.1 rfl (lv_room hcat) hd hcs
  intro T hT X
  rcases hr T hT X with ⟨v, st₀, t, T', LL, h0, X', hL, e1, e2, ⟨rv', hq9, -⟩, st9⟩ | ⟨q, st₀, t, T', LL, E9, ce, h0, X', hL, e1, e2, ⟨e9, hq9, hE9, hb9, hk9, hF⟩, hce, hcv, hcl9, st9⟩
  · cases hq9
  · cases hq9
    subst hE9
    have hS9 := f_keep h0 e1 h2 h3 hA hL hF
    obtain ⟨hzz, hq⟩ := hF
    rw [h0] at hzz hq
    obtain ⟨t2, a1, b1⟩ := k T'.heap.size (by rw [e1]; exact hzz) hk9 T'.heap (locs ++ LL) ls q ce st (hz.after hk9 (by rw [e1]; exact hzz) (fun q h5 h6 => by rw [e1]; exact hq q h5 h6)) (by rw [e1]; exact hb9) (fun q h => h2 q (by rw [← hk9.1]; exact h)) hS9 h4 (by rw [e1]; exact hce) hcv hcl9 T' rfl X'
    exact ⟨t2, st9.trans a1, b1⟩
theorem g_callW (hC : fOK X cc nL own rm l D cy) (hst : l.stackTraces = false) (As : List Value) {hh : List (Nat × Nat × Nat × Nat)} {o : Nat} {c0 c' : Cell} {k9 : Int32} (hnc : match X with | (p, l, e, R, s, m, args, below, meth, c, Q, D, cy, A) => gNc s) (hM : fWSpec l D cy y bytes maxL hh rm1 As w w1 o c0 c' k9) (hcode : Cond.codeWith y bytes maxL (some .int) hh ∈ lwA) (hini : Cond.initialized y.cls ∈ lwA) (hlink : Cond.methodLink own i y ∈ lwA) (hsta : Cond.static y ∈ lwA) (hd9 : y.cls ≠ "java/lang/invoke/MethodHandle" ∧ y.cls ≠ "java/lang/invoke/VarHandle" ∧ (parseMethodDescriptor y.desc).map (fun d => d.parameters.length) = some As.length) (hR : rm1.frames + 1 ≤ rm.frames ∧ 8 + (maxL + 11) + rm1.locals ≤ rm.locals) (hcs : cells + rm1.cells ≤ rm.cells ∧ slots + rm1.slots ≤ rm.slots) (hcat : (st.map fun v => v.category).sum ≤ 8) (he : E o = some (.inl c0)) (hstk : stk = As.reverse ++ st) (hd : decode cc pc = .ok (.invokestatic i, 3)) (k : ∀ h', h ≤ h' → fSm w1 w → gAt X (cells + rm1.cells) (slots + rm1.slots) nL w1 h' (gUp E o (some (.inl c'))) L (.int k9 :: st) (pc + 3)) : gAt X cells slots nL w h E L stk pc := by
  obtain ⟨p, l', e, R, s, m, args, below, meth, c, Q, D', cy', A⟩ := X
  obtain ⟨hx, hb, hml, hown, hts, hE, hA, rfl, rfl, rfl, rfl⟩ := hC
  intro H locs ls hz h1 h2 h3 h4
  subst hstk
  have hz1 := hz.1
  subst hz1
  have hg := hz.2 o _ he
  have hin : ∀ q, gdom w H.size o q → A q := fun q hq => hq.elim (h2 q) (fun z => z.elim (fun z => hA q (Nat.le_trans h3.1 z)) (fun z => z ▸ hg.2.1))
  have hGW : GoodIn lwA (va_wsS own i y (.codeWith y bytes maxL (some .int) hh :: lwA)) := by
    intro w hw
    have h1 : w ∈ lwA := by
      simp only [va_wsS, List.mem_append, List.mem_cons, List.not_mem_nil, or_false] at hw
      rcases hw with (h | h | h) | h | h
      · rw [h]; exact hlink
      · rw [h]; exact hsta
      · rw [h]; exact hini
      · rw [h]; exact hcode
      · exact h
    exact ⟨h1, good_of_word (List.mem_filter.mp h1).2⟩
  have hr : va_Run p l' e R s m args below meth c H locs cells slots rm1.cells rm1.slots (F0 m pc ls (As.reverse ++ st)) st (fWQ D' cy' w w1 o c' k9 (gdom w H.size o) As.toArray) (gdom w H.size o) := vx_runSW (As := As) (rest := st) ⟨hx, hb, hml, hown, hts⟩ (hM hst H.size) (vx_cwSW As.length hts hGW rfl rfl rfl hd9 hR) ⟨fWPc_blind, fun U hU hW => ⟨rfl, by rw [hU], by rw [hU]; exact h1, hg.1, hg.2.2.1, by rw [hU]; exact hg.2.2.2, hE.pass hW (locs := locs) (by rw [hU]; exact h3) hin, gNc.moved hW.alike hnc⟩⟩ rfl rfl h4.1 rfl (lv_room hcat) hd hcs
  intro T hT X
  obtain ⟨v, st₀, t, T', LL, h0, X', hL, e1, e2, ⟨hv, hb9, hk9, hc9, hzz, hq⟩, st9⟩ := hr T hT X
  cases hv
  rw [h0] at hzz hq
  have hon : gOn D' w1 T'.heap.size (gUp E o (some (.inl c'))) A T'.heap := by
    refine ⟨rfl, fun a x hx9 => ?_⟩
    by_cases e : a = o
    · subst e
      rw [gUp_s] at hx9
      cases hx9
      exact ⟨by rw [hk9.1]; exact hg.1, hg.2.1, by rw [e1]; exact Nat.lt_of_lt_of_le hg.2.2.1 hzz, by rw [e1]; exact hc9⟩
    · rw [gUp_n e] at hx9
      have hga := hz.2 a x hx9
      exact ⟨by rw [hk9.1]; exact hga.1, hga.2.1, by rw [e1]; exact Nat.lt_of_lt_of_le hga.2.2.1 hzz, by rw [e1]; exact hga.2.2.2.kept (hq a hga.2.2.1 (fun z => z.elim (fun z => z hga.1) (fun z => z.elim (fun z => absurd hga.2.2.1 (Nat.not_lt.mpr z)) e)))⟩
  obtain ⟨t2, a1, b1⟩ := k T'.heap.size (by rw [e1]; exact hzz) hk9 T'.heap (locs ++ LL) ls hon (by rw [e1]; exact hb9) (fun q h => h2 q (by rw [← hk9.1]; exact h))
    ⟨Nat.le_trans h3.1 (by rw [e1]; exact hzz), fun q h5 h6 => by rw [e1, hq q (Nat.lt_of_lt_of_le h5 h3.1) (fun z => h6 (hin q z))]; exact h3.2.1 q h5 h6, fun q hq => by
      rcases List.mem_append.mp hq with h | h
      · exact h3.2.2 q h
      · exact hin _ (hL q h)⟩ h4 T' rfl X'
  exact ⟨t2, st9 t2 a1, b1⟩
theorem g_catch (hC : fOK X cc nL own rm l D cy) {hh : List (Nat × Nat × Nat × Nat)} {w0 w9 : FW} {o : Nat} {c' : Cell} {k9 : Int32} {mc ms : Nat} (hEn : fEndW X hh w0 w9 o c' k9 mc ms) {name : String} (pre : List ExceptionTableEntry) (x : ExceptionTableEntry) (suf : List ExceptionTableEntry) (hsplit : tableOf hh = pre ++ x :: suf)
    (hpass : ∀ z ∈ pre, z.catchType ≠ 0 ∧ ∃ nm : String, Cond.classLink own z.catchType nm ∈ lwA ∧ (exN ex, nm) ∈ ncL) (hcov : covers x pc = true) (h0 : x.catchType ≠ 0)
    (hlink : Cond.classLink own x.catchType name ∈ lwA) (hcast : Cond.castable (exN ex) name ∈ lwN) (k : ∀ q : Nat, gAt X cells slots nL w h E L [.ref q] x.handlerPc) : gXt X cells slots nL w h E L ex pc := by
  obtain ⟨p, l', e, R, s, m, args, below, meth, c, Q, D', cy', A⟩ := X
  obtain ⟨hx, hb, hml, hown, hts, hE, hA, rfl, rfl, rfl, rfl⟩ := hC
  intro H locs ls q ce rest hz h1 h2 h3 h4 g1 g2 g3
  obtain ⟨r1, r2, r3, r4, r5, -⟩ := hEn
  refine vx_catch hown pre x suf (r3.trans hsplit) (fun z hz9 => ?_) hcov h0 (hts _ hlink) (fNst_use (List.mem_filter.mp hcast).2 (hE.2.1 _ hcast)) g1 g2 g3 (k q H locs ls hz h1 h2 h3 h4)
  obtain ⟨n1, nm, n2, n3⟩ := hpass z hz9
  exact Or.inr ⟨n1, nm, hts _ n2, r5 _ n3⟩
theorem g_lastE (hC : fOK X cc nL own rm l D cy) {a : Nat} {v x : Int64} (he : E a = some (.inl (arrV (cy 5) 1 (fun _ => .long v)))) (hd : decode cc pc = .ok (.lastore, 1)) (k : gAt X cells slots nL w h (gUp E a (some (.inl (arrV (cy 5) 1 (fun _ => .long x))))) L st (pc + 1)) : gAt X cells slots nL w h E L (.long x :: .int 0 :: .ref a :: st) pc := by
  obtain ⟨p, l', e, R, s, m, args, below, meth, c, Q, D', cy', A⟩ := X
  obtain ⟨hx, hb, hml, hown, hts, hE, hA, rfl, rfl, rfl, rfl⟩ := hC
  intro H locs ls hz h1 h2 h3 h4
  have hg := hz.2 a _ he
  refine W.last hx hb hg.2.2.2 ((hE.1.2 5 _ rfl).1 1 (fun _ => .long v)) (fun q => by cases q) (by show ¬ ((0 : Int32) < 0 ∨ (arrV _ _ _).slots.size ≤ _); rw [arrV_size]; decide) rfl rfl hd fun H1 e9 z oq => ?_
  refine k H1 _ ls (hz.pin he z oq ?_) (h1.off hg.1 (Nat.le_of_eq z.symm) (fun q _ hq => oq q hq)) h2 (h3.put z oq hg.2.1) h4
  show H1[a]? = some (arrV _ _ _)
  rw [e9, arrV_store]
  exact congrArg some (g_arrV (fun i hi => by
    have : i = 0 := by omega
    subst this
    rfl))
theorem g_laldE (hC : fOK X cc nL own rm l D cy) {a : Nat} {v : Int64} (he : E a = some (.inl (arrV (cy 5) 1 (fun _ => .long v)))) (hd : decode cc pc = .ok (.laload, 1)) (k : gAt X cells slots nL w h E L (.long v :: st) (pc + 1)) : gAt X cells slots nL w h E L (.int 0 :: .ref a :: st) pc := by
  obtain ⟨p, l', e, R, s, m, args, below, meth, c, Q, D', cy', A⟩ := X
  obtain ⟨hx, hb, hml, hown, hts, hE, hA, rfl, rfl, rfl, rfl⟩ := hC
  intro H locs ls hz h1 h2 h3 h4
  have hg := hz.2 a _ he
  exact W.lald (v := .long v) hx hb hg.2.2.2 ((hE.1.2 5 _ rfl).1 1 (fun _ => .long v)) (fun q => by cases q) (by show ¬ ((0 : Int32) < 0 ∨ (arrV _ _ _).slots.size ≤ _); rw [arrV_size]; decide) (by show (arrV _ _ _).slots[_]? = _; rw [arrV_read _ _ (by decide)]) rfl rfl hd (k H locs ls hz h1 h2 h3 h4)
theorem g_dastE (hC : fOK X cc nL own rm l D cy) {a : Nat} {v x : UInt64} (he : E a = some (.inl (arrV (cy 6) 1 (fun _ => .double v)))) (hd : decode cc pc = .ok (.dastore, 1)) (k : gAt X cells slots nL w h (gUp E a (some (.inl (arrV (cy 6) 1 (fun _ => .double x))))) L st (pc + 1)) : gAt X cells slots nL w h E L (.double x :: .int 0 :: .ref a :: st) pc := by
  obtain ⟨p, l', e, R, s, m, args, below, meth, c, Q, D', cy', A⟩ := X
  obtain ⟨hx, hb, hml, hown, hts, hE, hA, rfl, rfl, rfl, rfl⟩ := hC
  intro H locs ls hz h1 h2 h3 h4
  have hg := hz.2 a _ he
  refine W.dast hx hb hg.2.2.2 ((hE.1.2 6 _ rfl).1 1 (fun _ => .double v)) (fun q => by cases q) (by show ¬ ((0 : Int32) < 0 ∨ (arrV _ _ _).slots.size ≤ _); rw [arrV_size]; decide) rfl rfl hd fun H1 e9 z oq => ?_
  refine k H1 _ ls (hz.pin he z oq ?_) (h1.off hg.1 (Nat.le_of_eq z.symm) (fun q _ hq => oq q hq)) h2 (h3.put z oq hg.2.1) h4
  show H1[a]? = some (arrV _ _ _)
  rw [e9, arrV_store]
  exact congrArg some (g_arrV (fun i hi => by
    have : i = 0 := by omega
    subst this
    rfl))
theorem g_daldE (hC : fOK X cc nL own rm l D cy) {a : Nat} {v : UInt64} (he : E a = some (.inl (arrV (cy 6) 1 (fun _ => .double v)))) (hd : decode cc pc = .ok (.daload, 1)) (k : gAt X cells slots nL w h E L (.double v :: st) (pc + 1)) : gAt X cells slots nL w h E L (.int 0 :: .ref a :: st) pc := by
  obtain ⟨p, l', e, R, s, m, args, below, meth, c, Q, D', cy', A⟩ := X
  obtain ⟨hx, hb, hml, hown, hts, hE, hA, rfl, rfl, rfl, rfl⟩ := hC
  intro H locs ls hz h1 h2 h3 h4
  have hg := hz.2 a _ he
  exact W.dald (v := .double v) hx hb hg.2.2.2 ((hE.1.2 6 _ rfl).1 1 (fun _ => .double v)) (fun q => by cases q) (by show ¬ ((0 : Int32) < 0 ∨ (arrV _ _ _).slots.size ≤ _); rw [arrV_size]; decide) (by show (arrV _ _ _).slots[_]? = _; rw [arrV_read _ _ (by decide)]) rfl rfl hd (k H locs ls hz h1 h2 h3 h4)
theorem g_f2d (hC : fOK X cc nL own rm l D cy) {x : UInt32} (hn : vf_n64 (FP.f2d x)) (hd : decode cc pc = .ok (.f2d, 1)) (k : gAt X cells slots nL w h E L (.double (FP.f2d x) :: st) (pc + 1)) : gAt X cells slots nL w h E L (.float x :: st) pc := by
  obtain ⟨p, l', e, R, s, m, args, below, meth, c, Q, D', cy', A⟩ := X
  obtain ⟨hx, hb, hml, hown, hts, hE, hA, rfl, rfl, rfl, rfl⟩ := hC
  intro H locs ls hz h1 h2 h3 h4
  exact lv_f2d hx hb hd hn (k H locs ls hz h1 h2 h3 h4)
theorem g_iretW (hC : fOK X cc nL own rm l D cy) {hh : List (Nat × Nat × Nat × Nat)} {w0 : FW} {o : Nat} {c' : Cell} {v : Int32} (hEn : fEndW X hh w0 w o c' v cells slots) (hs : fSm w w0) (he : E o = some (.inl c')) (hd : decode cc pc = .ok (.ireturn, 1)) : gAt X cells slots nL w h E L [.int v] pc := by
  obtain ⟨p, l', e, R, s, m, args, below, meth, c, Q, D', cy', A⟩ := X
  obtain ⟨hx, hb, hml, hown, hts, hE, hA, rfl, rfl, rfl, rfl⟩ := hC
  intro H locs ls hz h1 h2 h3 h4
  obtain ⟨r1, r2, r3, r4, r5, rfl⟩ := hEn
  exact W.iret hx hb r1 (fun t ht hW => ⟨rfl, by rw [ht]; exact h1, hs, by rw [ht]; exact (hz.2 o _ he).2.2.2, h3.F ht⟩) h3.2.2 hd r2
end GWRAP
/-- what a wrapper answers, and what stands in its row behind it -/
def wO {α : Type} (r : α ⊕ Nat) (c : Cell) (f : α → Cell) : Cell := match r with
  | .inl v => f v
  | .inr _ => c
