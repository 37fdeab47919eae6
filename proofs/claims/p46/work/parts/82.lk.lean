/-! The law's methods: contracts beside read-only cells, calls, handlers, returns, rows of longs, counted loops -/
/-- classes of exceptions that are not each other's: (thrown, named by an earlier handler) -/
def ncL : List (String × String) := [("java/lang/IllegalArgumentException", "java/lang/IndexOutOfBoundsException"), ("java/lang/IllegalStateException", "java/lang/IllegalArgumentException"), ("java/lang/UnsupportedOperationException", "java/lang/IllegalArgumentException"), ("java/lang/UnsupportedOperationException", "java/lang/IndexOutOfBoundsException"), ("java/util/NoSuchElementException", "java/lang/IllegalArgumentException"), ("java/util/NoSuchElementException", "java/lang/IndexOutOfBoundsException")]
def gNc (U : State) : Prop := ∀ q ∈ ncL, va_Nc q.1 q.2 U
theorem gNc.moved {u U : State} (hvm : u.vm.Alike U.vm) (h : gNc u) : gNc U := fun q hq => va_Nc.moved hvm (h q hq)
def gE0 : gE := fun _ => none
/-- the script: its address, its length, its ints -/
abbrev lScr : Type := Option (Nat × Nat × (Nat → Int32))
def lPc (D : va_G) (cy : Nat → ClassId) (As : List Value) (w : FW) (sz : Nat) (E0 : gE) (sc : lScr) : Array Value → State → Prop := va_Pc As (fun U => U.heap.size = sz ∧ FH D cy w U.heap ∧ fEnv D cy (fdom w sz) U ∧ gNc U ∧ (∀ a x, E0 a = some x → w.1 a = 0 ∧ a < sz ∧ gHas D a U.heap x) ∧ ∀ q, sc = some q → w.1 q.1 = 0 ∧ q.1 < sz ∧ va_X q.1 q.2.1 q.2.2 U U.heap)
def lSpec (l : Launch) (D : va_G) (cy : Nat → ClassId) (y : MethodName) (hd : Cond) (rm : Room) (As : List Value) (E0 : gE) (sc : lScr) (w w' : FW) (rv : Option Value) : Prop :=
  l.stackTraces = false → ∀ sz : Nat, Met l y (hd :: lwA) rm (lPc D cy As w sz E0 sc) (fQ D cy rv w w' (fdom w sz)) rm.cells rm.slots (fdom w sz)
def lOK (X : FX) (E0 : gE) (sc : lScr) : Prop := match X with
  | (p, l, e, R, s, m, args, below, meth, c, Q, D, cy, A) => l.stackTraces = false ∧ gNc s ∧ (∀ a x, E0 a = some x → ¬ A a ∧ a < s.heap.size ∧ gHas D a s.heap x) ∧ ∀ q, sc = some q → ¬ A q.1 ∧ q.1 < s.heap.size ∧ va_X q.1 q.2.1 q.2.2 s s.heap
def lTab (X : FX) (hh : List (Nat × Nat × Nat × Nat)) : Prop := match X with
  | (p, l, e, R, s, m, args, below, meth, c, Q, D, cy, A) => c.exceptionTable.toList = tableOf hh
theorem lOK_st {X : FX} {cc : ByteArray} {nL : Nat} {own : String} {rm : Room} {l : Launch} {D : va_G} {cy : Nat → ClassId} {E0 : gE} {sc : lScr} (hC : fOK X cc nL own rm l D cy) (hL : lOK X E0 sc) : l.stackTraces = false := by
  obtain ⟨p, l', e, R, s, m, args, below, meth, c, Q, D', cy', A⟩ := X
  obtain ⟨hx, hb, hml, hown, hts, hE, hA, rfl, rfl, rfl, rfl⟩ := hC
  exact hL.1
theorem lPc_blind {D : va_G} {cy : Nat → ClassId} {As : List Value} {w : FW} {sz : Nat} {E0 : gE} {sc : lScr} : FrameBlind (lPc D cy As w sz E0 sc) := by
  intro a U g mk q
  obtain ⟨q0, q1, q2, q3, q4, q5, q6⟩ := q
  exact ⟨q0, q1, q2, q3.blind g mk a, gNc.moved (u := U) (U := U.calling g mk a) (Vm.Alike.refl U.vm) q4, q5, fun z hz => ⟨(q6 z hz).1, (q6 z hz).2.1, va_X.moved (u := U) (U := U.calling g mk a) (Vm.Alike.refl U.vm) (q6 z hz).2.2⟩⟩
theorem l_ok {D : va_G} {w : FW} {sz : Nat} {E0 : gE} {s : State} (hz : s.heap.size = sz) (hR : ∀ a x, E0 a = some x → w.1 a = 0 ∧ a < sz ∧ gHas D a s.heap x) : ∀ a x, E0 a = some x → ¬ fdom w sz a ∧ a < s.heap.size ∧ gHas D a s.heap x :=
  fun a x hx => ⟨fun z => z.elim (fun z => z (hR a x hx).1) (fun z => absurd (hR a x hx).2.1 (Nat.not_lt.mpr z)), by rw [hz]; exact (hR a x hx).2.1, (hR a x hx).2.2⟩
theorem l_sc {w : FW} {sz : Nat} {sc : lScr} {s : State} (hz : s.heap.size = sz) (hR : ∀ q, sc = some q → w.1 q.1 = 0 ∧ q.1 < sz ∧ va_X q.1 q.2.1 q.2.2 s s.heap) : ∀ q, sc = some q → ¬ fdom w sz q.1 ∧ q.1 < s.heap.size ∧ va_X q.1 q.2.1 q.2.2 s s.heap :=
  fun q hq => ⟨fun z => z.elim (fun z => z (hR q hq).1) (fun z => absurd (hR q hq).2.1 (Nat.not_lt.mpr z)), by rw [hz]; exact (hR q hq).2.1, (hR q hq).2.2⟩
theorem l_begin {l : Launch} {D : va_G} {cy : Nat → ClassId} {y : MethodName} {cc : ByteArray} {nL : Nat} {ret : Option FieldType} {rm : Room} {As : List Value} {w w' : FW} {rv : Option Value} {E0 : gE} {sc : lScr} (hy : plainFor y = true) (hn : (lg_sl As).length ≤ nL)
    (body : ∀ (X : FX) (h : Nat), fOK X cc nL y.cls rm l D cy → fEnd X ret rv w w' rm.cells rm.slots → lOK X E0 sc → gAt X 0 0 nL w h gE0 (lv_args 0 As) [] 0) : lSpec l D cy y (.code y cc nL ret) rm As E0 sc w w' rv := by
  intro hst sz
  refine Met.ofWF (cc := cc) (maxL := nL) (ret := ret) hy rfl ?_
  intro p e s m args below meth c s₁ B hml hv
  obtain ⟨rfl, hsz, hP, hE, hN, hR, hR9⟩ := hv
  subst hsz
  have hts := atoms_spec (ws := .code y cc nL ret :: lwA) B.pre
  have hl := lv_entry As hn
  rw [lg_entry_eq]
  exact body (p, l, e, rm, s, m, As.toArray, below, meth, c, _, D, cy, fdom w s.heap.size) s.heap.size ⟨B.exec, B.bytes, hml, findClass_of_methodNamed B.named, fun w hw => hts w (List.mem_cons_of_mem _ hw), hE, fun q h => Or.inr h, rfl, rfl, rfl, rfl⟩ ⟨B.returns, B.notSynchronized, rfl⟩ ⟨hst, hN, l_ok rfl hR, l_sc rfl hR9⟩ s.heap [] _ ⟨rfl, fun a x hx => by cases hx⟩ hP (fun q h => Or.inl h) va_S.rf hl
theorem l_beginW {l : Launch} {D : va_G} {cy : Nat → ClassId} {y : MethodName} {cc : ByteArray} {nL : Nat} {ret : Option FieldType} {hh : List (Nat × Nat × Nat × Nat)} {rm : Room} {As : List Value} {w w' : FW} {rv : Option Value} {E0 : gE} {sc : lScr} (hy : plainName y.cls = true) (hn : (lg_sl As).length ≤ nL)
    (body : ∀ (X : FX) (h : Nat), fOK X cc nL y.cls rm l D cy → fEnd X ret rv w w' rm.cells rm.slots → lOK X E0 sc → lTab X hh → gAt X 0 0 nL w h gE0 (lv_args 0 As) [] 0) : lSpec l D cy y (.codeWith y cc nL ret hh) rm As E0 sc w w' rv := by
  intro hst sz
  refine va_MetW (cc := cc) (maxL := nL) (ret := ret) (hh := hh) hy rfl ?_
  intro p e s m args below meth c s₁ B hml hv
  obtain ⟨rfl, hsz, hP, hE, hN, hR, hR9⟩ := hv
  subst hsz
  have hts := atoms_spec (ws := .codeWith y cc nL ret hh :: lwA) B.pre
  have htab := vx_table (x := y) B (hts _ List.mem_cons_self)
  have hl := lv_entry As hn
  rw [lg_entry_eq]
  exact body (p, l, e, rm, s, m, As.toArray, below, meth, c, _, D, cy, fdom w s.heap.size) s.heap.size ⟨B.exec, B.bytes, hml, findClass_of_methodNamed B.named, fun w hw => hts w (List.mem_cons_of_mem _ hw), hE, fun q h => Or.inr h, rfl, rfl, rfl, rfl⟩ ⟨B.returns, B.notSynchronized, rfl⟩ ⟨hst, hN, l_ok rfl hR, l_sc rfl hR9⟩ htab s.heap [] _ ⟨rfl, fun a x hx => by cases hx⟩ hP (fun q h => Or.inl h) va_S.rf hl
/-- over the frame at pc the exception e is under way -/
def gXt (X : FX) (cells slots n : Nat) (w : FW) (h : Nat) (E : gE) (L : List (Nat × Value)) (ex : Nat) (pc : Nat) : Prop := match X with
  | (p, l, e, R, s, m, args, below, meth, c, Q, D, cy, A) => ∀ (H : Heap) (locs : List Loc) (ls : Array Slot) (q : Nat) (ce : Cell) (rest : List Value), gOn D w h E A H → FH D cy w H → (∀ q, w.1 q ≠ 0 → A q) → va_S A s.heap H locs → lv_has ls n L → H[q]? = some ce → ce.vm = .none → s.vm.findClass (exN ex) = some ce.cls → vx_W p l e R s m args below meth c H locs cells slots Q (F0 m pc ls rest) q
section GWRAP
variable {X : FX} {cc : ByteArray} {nL : Nat} {own : String} {rm : Room} {l : Launch} {D : va_G} {cy : Nat → ClassId} {cells slots pc h : Nat} {w w1 : FW} {E : gE} {L : List (Nat × Value)} {st stk : List Value}
variable {y : MethodName} {bytes : ByteArray} {maxL : Nat} {ret : Option FieldType} {rm1 : Room} {rv : Option Value} {b ci N i ex : Nat} {T : u_T}
theorem gOn.after {D : va_G} {w w1 : FW} {h : Nat} {E : gE} {A : Nat → Prop} {H H1 : Heap} (g : gOn D w h E A H) (hk : fSm w1 w) (hz : H.size ≤ H1.size) (hq : ∀ q, q < H.size → ¬ fdom w H.size q → H1[q]? = H[q]?) : gOn D w1 H1.size E A H1 :=
  ⟨rfl, fun a x hx => ⟨by rw [hk.1]; exact (g.2 a x hx).1, (g.2 a x hx).2.1, Nat.lt_of_lt_of_le (g.2 a x hx).2.2.1 hz, (g.2 a x hx).2.2.2.kept (hq a (g.2 a x hx).2.2.1 (fun z => z.elim (fun z => z (g.2 a x hx).1) (fun z => absurd (g.2 a x hx).2.2.1 (Nat.not_lt.mpr z))))⟩⟩
theorem g_callV (hC : fOK X cc nL own rm l D cy) (As : List Value) (hM : fSpec l D cy y bytes maxL ret rm1 (.ref b :: As) w w1 rv) (hcode : Cond.code y bytes maxL ret ∈ lwA) (hini : Cond.initialized y.cls ∈ lwA) (hlink : Cond.methodLink own i y ∈ lwA) (hinst : Cond.instanceMethod y ∈ lwA) (hsel : Cond.selects y.cls y y ∈ lwA) (hd9 : y.cls ≠ "java/lang/invoke/MethodHandle" ∧ y.cls ≠ "java/lang/invoke/VarHandle" ∧ (parseMethodDescriptor y.desc).map (fun d => d.parameters.length) = some As.length) (hcl : fCl[ci]? = some (y.cls, T, N)) (hk : w.1 b = ci + 1) (hR : rm1.frames + 1 ≤ rm.frames ∧ 8 + (maxL + 11) + rm1.locals ≤ rm.locals) (hcs : cells + rm1.cells ≤ rm.cells ∧ slots + rm1.slots ≤ rm.slots) (hcat : (st.map fun v => v.category).sum ≤ 8) (hstk : stk = As.reverse ++ .ref b :: st) (hd : decode cc pc = .ok (.invokevirtual i, 3)) (k : ∀ h', h ≤ h' → fSm w1 w → gAt X (cells + rm1.cells) (slots + rm1.slots) nL w1 h' E L (rv.toList ++ st) (pc + 3)) : gAt X cells slots nL w h E L stk pc := by
  obtain ⟨p, l', e, R, s, m, args, below, meth, c, Q, D', cy', A⟩ := X
  obtain ⟨hx, hb, hml, hown, hts, hE, hA, rfl, rfl, rfl, rfl⟩ := hC
  intro H locs ls hz h1 h2 h3 h4
  subst hstk
  have hz1 := hz.1
  subst hz1
  obtain ⟨cell, q1, q2, q3, q4⟩ := h1.ob hk (fN_ok hcl).2
  have hcls := (hE.1.1 ci _ hcl).2.1
  have hr : va_Run p l' e R s m args below meth c H locs cells slots rm1.cells rm1.slots (F0 m pc ls (As.reverse ++ .ref b :: st)) st (fQ D' cy' rv w w1 (fdom w H.size) (.ref b :: As).toArray) (fdom w H.size) := va_runV (As := As) (rest := st) (C := y.cls) ⟨hx, hb, hml, hown, hts⟩ (hM H.size) ⟨callB_of As.length hts (gA0 hcode) rfl rfl rfl (hts _ hini) (hts _ hlink) hd9 hR, hts _ hinst, hts _ hsel⟩ ⟨fPc_blind, ⟨cell, q1, by rw [q3]; rfl, by rw [q2]; exact hcls⟩, fun U hU hW => fPc_at hE h1 h2 h3 hA hU hW⟩ rfl rfl h4.1 rfl (lv_room hcat) hd hcs
  intro T hT X
  obtain ⟨v, st₀, t, T', LL, h0, X', hL, e1, e2, ⟨hv, hb9, hk9, hF⟩, st9⟩ := hr T hT X
  cases hv
  have hS9 := f_keep h0 e1 h2 h3 hA hL hF
  obtain ⟨hzz, hq⟩ := hF
  rw [h0] at hzz hq
  obtain ⟨t2, a1, b1⟩ := k T'.heap.size (by rw [e1]; exact hzz) hk9 T'.heap (locs ++ LL) ls (hz.after hk9 (by rw [e1]; exact hzz) (fun q h5 h6 => by rw [e1]; exact hq q h5 h6)) (by rw [e1]; exact hb9) (fun q h => h2 q (by rw [← hk9.1]; exact h)) hS9 h4 T' rfl X'
  exact ⟨t2, st9 t2 a1, b1⟩
theorem g_callS (hC : fOK X cc nL own rm l D cy) (As : List Value) (hM : fSpec l D cy y bytes maxL ret rm1 (As) w w1 rv) (hcode : Cond.code y bytes maxL ret ∈ lwA) (hini : Cond.initialized y.cls ∈ lwA) (hlink : Cond.methodLink own i y ∈ lwA) (hsta : Cond.static y ∈ lwA) (hd9 : y.cls ≠ "java/lang/invoke/MethodHandle" ∧ y.cls ≠ "java/lang/invoke/VarHandle" ∧ (parseMethodDescriptor y.desc).map (fun d => d.parameters.length) = some As.length) (hR : rm1.frames + 1 ≤ rm.frames ∧ 8 + (maxL + 11) + rm1.locals ≤ rm.locals) (hcs : cells + rm1.cells ≤ rm.cells ∧ slots + rm1.slots ≤ rm.slots) (hcat : (st.map fun v => v.category).sum ≤ 8) (hstk : stk = As.reverse ++ st) (hd : decode cc pc = .ok (.invokestatic i, 3)) (k : ∀ h', h ≤ h' → fSm w1 w → gAt X (cells + rm1.cells) (slots + rm1.slots) nL w1 h' E L (rv.toList ++ st) (pc + 3)) : gAt X cells slots nL w h E L stk pc := by
  obtain ⟨p, l', e, R, s, m, args, below, meth, c, Q, D', cy', A⟩ := X
  obtain ⟨hx, hb, hml, hown, hts, hE, hA, rfl, rfl, rfl, rfl⟩ := hC
  intro H locs ls hz h1 h2 h3 h4
  subst hstk
  have hz1 := hz.1
  subst hz1
  have hr : va_Run p l' e R s m args below meth c H locs cells slots rm1.cells rm1.slots (F0 m pc ls (As.reverse ++ st)) st (fQ D' cy' rv w w1 (fdom w H.size) (As).toArray) (fdom w H.size) := va_runS (As := As) (rest := st) ⟨hx, hb, hml, hown, hts⟩ (hM H.size) ⟨callB_of As.length hts (gA0 hcode) rfl rfl rfl (hts _ hini) (hts _ hlink) hd9 hR, hts _ hsta⟩ ⟨fPc_blind, fun U hU hW => fPc_at hE h1 h2 h3 hA hU hW⟩ rfl rfl h4.1 rfl (lv_room hcat) hd hcs
  intro T hT X
  obtain ⟨v, st₀, t, T', LL, h0, X', hL, e1, e2, ⟨hv, hb9, hk9, hF⟩, st9⟩ := hr T hT X
  cases hv
  have hS9 := f_keep h0 e1 h2 h3 hA hL hF
  obtain ⟨hzz, hq⟩ := hF
  rw [h0] at hzz hq
  obtain ⟨t2, a1, b1⟩ := k T'.heap.size (by rw [e1]; exact hzz) hk9 T'.heap (locs ++ LL) ls (hz.after hk9 (by rw [e1]; exact hzz) (fun q h5 h6 => by rw [e1]; exact hq q h5 h6)) (by rw [e1]; exact hb9) (fun q h => h2 q (by rw [← hk9.1]; exact h)) hS9 h4 T' rfl X'
  exact ⟨t2, st9 t2 a1, b1⟩
theorem g_callVR (hC : fOK X cc nL own rm l D cy) (hst : l.stackTraces = false) (As : List Value) (hM : fSpecX l D cy y bytes maxL ret rm1 (.ref b :: As) w w1 (.inl rv)) (hcode : Cond.code y bytes maxL ret ∈ lwA) (hini : Cond.initialized y.cls ∈ lwA) (hlink : Cond.methodLink own i y ∈ lwA) (hinst : Cond.instanceMethod y ∈ lwA) (hsel : Cond.selects y.cls y y ∈ lwA) (hd9 : y.cls ≠ "java/lang/invoke/MethodHandle" ∧ y.cls ≠ "java/lang/invoke/VarHandle" ∧ (parseMethodDescriptor y.desc).map (fun d => d.parameters.length) = some As.length) (hcl : fCl[ci]? = some (y.cls, T, N)) (hk : w.1 b = ci + 1) (hR : rm1.frames + 1 ≤ rm.frames ∧ 8 + (maxL + 11) + rm1.locals ≤ rm.locals) (hcs : cells + rm1.cells ≤ rm.cells ∧ slots + rm1.slots ≤ rm.slots) (hcat : (st.map fun v => v.category).sum ≤ 8) (hstk : stk = As.reverse ++ .ref b :: st) (hd : decode cc pc = .ok (.invokevirtual i, 3)) (k : ∀ h', h ≤ h' → fSm w1 w → gAt X (cells + rm1.cells) (slots + rm1.slots) nL w1 h' E L (rv.toList ++ st) (pc + 3)) : gAt X cells slots nL w h E L stk pc := by
  obtain ⟨p, l', e, R, s, m, args, below, meth, c, Q, D', cy', A⟩ := X
  obtain ⟨hx, hb, hml, hown, hts, hE, hA, rfl, rfl, rfl, rfl⟩ := hC
  intro H locs ls hz h1 h2 h3 h4
  subst hstk
  have hz1 := hz.1
  subst hz1
  obtain ⟨cell, q1, q2, q3, q4⟩ := h1.ob hk (fN_ok hcl).2
  have hcls := (hE.1.1 ci _ hcl).2.1
  have hr : vx_Run p l' e R s m args below meth c H locs cells slots rm1.cells rm1.slots (F0 m pc ls (As.reverse ++ .ref b :: st)) st (fQX D' cy' (.inl rv) w w1 (fdom w H.size) (Value.ref b :: As).toArray) (fXC D' cy' (.inl rv) w w1 (fdom w H.size)) (fdom w H.size) := vx_runV (As := As) (rest := st) (C := y.cls) ⟨hx, hb, hml, hown, hts⟩ (hM hst H.size) ⟨callB_of As.length hts (gA0 hcode) rfl rfl rfl (hts _ hini) (hts _ hlink) hd9 hR, hts _ hinst, hts _ hsel⟩ ⟨fPc_blind, ⟨cell, q1, by rw [q3]; rfl, by rw [q2]; exact hcls⟩, fun U hU hW => fPc_at hE h1 h2 h3 hA hU hW⟩ rfl rfl h4.1 rfl (lv_room hcat) hd hcs
  intro T hT X
  rcases hr T hT X with ⟨v, st₀, t, T', LL, h0, X', hL, e1, e2, ⟨rv', hq9, hv, hb9, hk9, hF⟩, st9⟩ | ⟨q, st₀, t, T', LL, E9, ce, h0, X', hL, e1, e2, ⟨e9, hq9, -⟩, -⟩
  · cases hq9
    cases hv
    have hS9 := f_keep h0 e1 h2 h3 hA hL hF
    obtain ⟨hzz, hq⟩ := hF
    rw [h0] at hzz hq
    obtain ⟨t2, a1, b1⟩ := k T'.heap.size (by rw [e1]; exact hzz) hk9 T'.heap (locs ++ LL) ls (hz.after hk9 (by rw [e1]; exact hzz) (fun q h5 h6 => by rw [e1]; exact hq q h5 h6)) (by rw [e1]; exact hb9) (fun q h => h2 q (by rw [← hk9.1]; exact h)) hS9 h4 T' rfl X'
    exact ⟨t2, st9 t2 a1, b1⟩
  · cases hq9
theorem g_callVT (hC : fOK X cc nL own rm l D cy) (hst : l.stackTraces = false) (As : List Value) (hM : fSpecX l D cy y bytes maxL ret rm1 (.ref b :: As) w w1 (.inr ex)) (hcode : Cond.code y bytes maxL ret ∈ lwA) (hini : Cond.initialized y.cls ∈ lwA) (hlink : Cond.methodLink own i y ∈ lwA) (hinst : Cond.instanceMethod y ∈ lwA) (hsel : Cond.selects y.cls y y ∈ lwA) (hd9 : y.cls ≠ "java/lang/invoke/MethodHandle" ∧ y.cls ≠ "java/lang/invoke/VarHandle" ∧ (parseMethodDescriptor y.desc).map (fun d => d.parameters.length) = some As.length) (hcl : fCl[ci]? = some (y.cls, T, N)) (hk : w.1 b = ci + 1) (hR : rm1.frames + 1 ≤ rm.frames ∧ 8 + (maxL + 11) + rm1.locals ≤ rm.locals) (hcs : cells + rm1.cells ≤ rm.cells ∧ slots + rm1.slots ≤ rm.slots) (hcat : (st.map fun v => v.category).sum ≤ 8) (hstk : stk = As.reverse ++ .ref b :: st) (hd : decode cc pc = .ok (.invokevirtual i, 3)) (k : ∀ h', h ≤ h' → fSm w1 w → gXt X (cells + rm1.cells) (slots + rm1.slots) nL w1 h' E L ex pc) : gAt X cells slots nL w h E L stk pc := by
  obtain ⟨p, l', e, R, s, m, args, below, meth, c, Q, D', cy', A⟩ := X
  obtain ⟨hx, hb, hml, hown, hts, hE, hA, rfl, rfl, rfl, rfl⟩ := hC
  intro H locs ls hz h1 h2 h3 h4
  subst hstk
  have hz1 := hz.1
  subst hz1
  obtain ⟨cell, q1, q2, q3, q4⟩ := h1.ob hk (fN_ok hcl).2
  have hcls := (hE.1.1 ci _ hcl).2.1
  have hr : vx_Run p l' e R s m args below meth c H locs cells slots rm1.cells rm1.slots (F0 m pc ls (As.reverse ++ .ref b :: st)) st (fQX D' cy' (.inr ex) w w1 (fdom w H.size) (Value.ref b :: As).toArray) (fXC D' cy' (.inr ex) w w1 (fdom w H.size)) (fdom w H.size) := vx_runV (As := As) (rest := st) (C := y.cls) ⟨hx, hb, hml, hown, hts⟩ (hM hst H.size) ⟨callB_of As.length hts (gA0 hcode) rfl rfl rfl (hts _ hini) (hts _ hlink) hd9 hR, hts _ hinst, hts _ hsel⟩ ⟨fPc_blind, ⟨cell, q1, by rw [q3]; rfl, by rw [q2]; exact hcls⟩, fun U hU hW => fPc_at hE h1 h2 h3 hA hU hW⟩ rfl rfl h4.1 rfl (lv_room hcat) hd hcs
  intro T hT X
  rcases hr T hT X with ⟨v, st₀, t, T', LL, h0, X', hL, e1, e2, ⟨rv', hq9, -⟩, st9⟩ | ⟨q, st₀, t, T', LL, E9, ce, h0, X', hL, e1, e2, ⟨e9, hq9, hE9, hb9, hk9, hF⟩, hce, hcv, hcl9, st9⟩
  · cases hq9
  · cases hq9
    subst hE9
    have hS9 := f_keep h0 e1 h2 h3 hA hL hF
    obtain ⟨hzz, hq⟩ := hF
    rw [h0] at hzz hq
    obtain ⟨t2, a1, b1⟩ := k T'.heap.size (by rw [e1]; exact hzz) hk9 T'.heap (locs ++ LL) ls q ce st (hz.after hk9 (by rw [e1]; exact hzz) (fun q h5 h6 => by rw [e1]; exact hq q h5 h6)) (by rw [e1]; exact hb9) (fun q h => h2 q (by rw [← hk9.1]; exact h)) hS9 h4 (by rw [e1]; exact hce) hcv hcl9 T' rfl X'
    exact ⟨t2, st9.trans a1, b1⟩
theorem g_callL (hC : fOK X cc nL own rm l D cy) {E0 E1 : gE} {sc sc1 : lScr} (hL : lOK X E0 sc) (As : List Value) (hM : lSpec l D cy y (.code y bytes maxL ret) rm1 As E1 sc1 w w1 rv) (hs1 : sc1 = none ∨ sc1 = sc) (hE1 : ∀ a x, E1 a = some x → E a = some x ∨ E0 a = some x) (hcode : Cond.code y bytes maxL ret ∈ lwA) (hini : Cond.initialized y.cls ∈ lwA) (hlink : Cond.methodLink own i y ∈ lwA) (hsta : Cond.static y ∈ lwA) (hd9 : y.cls ≠ "java/lang/invoke/MethodHandle" ∧ y.cls ≠ "java/lang/invoke/VarHandle" ∧ (parseMethodDescriptor y.desc).map (fun d => d.parameters.length) = some As.length) (hR : rm1.frames + 1 ≤ rm.frames ∧ 8 + (maxL + 11) + rm1.locals ≤ rm.locals) (hcs : cells + rm1.cells ≤ rm.cells ∧ slots + rm1.slots ≤ rm.slots) (hcat : (st.map fun v => v.category).sum ≤ 8) (hstk : stk = As.reverse ++ st) (hd : decode cc pc = .ok (.invokestatic i, 3)) (k : ∀ h', h ≤ h' → fSm w1 w → gAt X (cells + rm1.cells) (slots + rm1.slots) nL w1 h' E L (rv.toList ++ st) (pc + 3)) : gAt X cells slots nL w h E L stk pc := by
  obtain ⟨p, l', e, R, s, m, args, below, meth, c, Q, D', cy', A⟩ := X
  obtain ⟨hx, hb, hml, hown, hts, hE, hA, rfl, rfl, rfl, rfl⟩ := hC
  intro H locs ls hz h1 h2 h3 h4
  subst hstk
  have hz1 := hz.1
  subst hz1
  have hin : ∀ q, fdom w H.size q → A q := fun q hq => hq.elim (h2 q) (fun z => hA q (Nat.le_trans h3.1 z))
  have hRO : ∀ a x, E1 a = some x → w.1 a = 0 ∧ a < H.size ∧ gHas D' a H x := fun a x hx1 => by
    rcases hE1 a x hx1 with h | h
    · exact ⟨(hz.2 a x h).1, (hz.2 a x h).2.2.1, (hz.2 a x h).2.2.2⟩
    · obtain ⟨g1, g2, g3⟩ := hL.2.2.1 a x h
      exact ⟨Classical.byContradiction (fun z => g1 (h2 a z)), Nat.lt_of_lt_of_le g2 h3.1, g3.kept (h3.2.1 a g2 g1)⟩
  have hSC : ∀ q, sc1 = some q → w.1 q.1 = 0 ∧ q.1 < H.size ∧ va_X q.1 q.2.1 q.2.2 s H := fun q hq => by
    rcases hs1 with h | h
    · rw [h] at hq
      cases hq
    · rw [h] at hq
      obtain ⟨g1, g2, g3⟩ := hL.2.2.2 q hq
      exact ⟨Classical.byContradiction (fun z => g1 (h2 _ z)), Nat.lt_of_lt_of_le g2 h3.1, g3.kept (h3.2.1 _ g2 g1)⟩
  have hpc : ∀ U : State, U.heap = H → s.WarmedH U.vm → lPc D' cy' As w H.size E1 sc1 As.toArray U := fun U hU hW => ⟨rfl, by rw [hU], by rw [hU]; exact h1, hE.pass hW (locs := locs) (by rw [hU]; exact h3) hin, gNc.moved hW.alike hL.2.1, by rw [hU]; exact hRO, fun q hq => ⟨(hSC q hq).1, (hSC q hq).2.1, by rw [hU]; exact (hSC q hq).2.2.moved hW.alike⟩⟩
  have hr : va_Run p l' e R s m args below meth c H locs cells slots rm1.cells rm1.slots (F0 m pc ls (As.reverse ++ st)) st (fQ D' cy' rv w w1 (fdom w H.size) As.toArray) (fdom w H.size) := va_runS (As := As) (rest := st) ⟨hx, hb, hml, hown, hts⟩ (hM hL.1 H.size) ⟨callB_of As.length hts (gA0 hcode) rfl rfl rfl (hts _ hini) (hts _ hlink) hd9 hR, hts _ hsta⟩ ⟨lPc_blind, hpc⟩ rfl rfl h4.1 rfl (lv_room hcat) hd hcs
  intro T hT X
  obtain ⟨v, st₀, t, T', LL, h0, X', hLL, e1, e2, ⟨hv, hb9, hk9, hF⟩, st9⟩ := hr T hT X
  cases hv
  have hS9 := f_keep h0 e1 h2 h3 hA hLL hF
  obtain ⟨hzz, hq⟩ := hF
  rw [h0] at hzz hq
  obtain ⟨t2, a1, b1⟩ := k T'.heap.size (by rw [e1]; exact hzz) hk9 T'.heap (locs ++ LL) ls (hz.after hk9 (by rw [e1]; exact hzz) (fun q h5 h6 => by rw [e1]; exact hq q h5 h6)) (by rw [e1]; exact hb9) (fun q h => h2 q (by rw [← hk9.1]; exact h)) hS9 h4 T' rfl X'
  exact ⟨t2, st9 t2 a1, b1⟩
theorem g_callLW (hC : fOK X cc nL own rm l D cy) {E0 E1 : gE} {sc sc1 : lScr} (hL : lOK X E0 sc) (As : List Value) {hh : List (Nat × Nat × Nat × Nat)} (hM : lSpec l D cy y (.codeWith y bytes maxL ret hh) rm1 As E1 sc1 w w1 rv) (hs1 : sc1 = none ∨ sc1 = sc) (hE1 : ∀ a x, E1 a = some x → E a = some x ∨ E0 a = some x) (hcode : Cond.codeWith y bytes maxL ret hh ∈ lwA) (hini : Cond.initialized y.cls ∈ lwA) (hlink : Cond.methodLink own i y ∈ lwA) (hsta : Cond.static y ∈ lwA) (hd9 : y.cls ≠ "java/lang/invoke/MethodHandle" ∧ y.cls ≠ "java/lang/invoke/VarHandle" ∧ (parseMethodDescriptor y.desc).map (fun d => d.parameters.length) = some As.length) (hR : rm1.frames + 1 ≤ rm.frames ∧ 8 + (maxL + 11) + rm1.locals ≤ rm.locals) (hcs : cells + rm1.cells ≤ rm.cells ∧ slots + rm1.slots ≤ rm.slots) (hcat : (st.map fun v => v.category).sum ≤ 8) (hstk : stk = As.reverse ++ st) (hd : decode cc pc = .ok (.invokestatic i, 3)) (k : ∀ h', h ≤ h' → fSm w1 w → gAt X (cells + rm1.cells) (slots + rm1.slots) nL w1 h' E L (rv.toList ++ st) (pc + 3)) : gAt X cells slots nL w h E L stk pc := by
  obtain ⟨p, l', e, R, s, m, args, below, meth, c, Q, D', cy', A⟩ := X
  obtain ⟨hx, hb, hml, hown, hts, hE, hA, rfl, rfl, rfl, rfl⟩ := hC
  intro H locs ls hz h1 h2 h3 h4
  subst hstk
  have hz1 := hz.1
  subst hz1
  have hin : ∀ q, fdom w H.size q → A q := fun q hq => hq.elim (h2 q) (fun z => hA q (Nat.le_trans h3.1 z))
  have hRO : ∀ a x, E1 a = some x → w.1 a = 0 ∧ a < H.size ∧ gHas D' a H x := fun a x hx1 => by
    rcases hE1 a x hx1 with h | h
    · exact ⟨(hz.2 a x h).1, (hz.2 a x h).2.2.1, (hz.2 a x h).2.2.2⟩
    · obtain ⟨g1, g2, g3⟩ := hL.2.2.1 a x h
      exact ⟨Classical.byContradiction (fun z => g1 (h2 a z)), Nat.lt_of_lt_of_le g2 h3.1, g3.kept (h3.2.1 a g2 g1)⟩
  have hSC : ∀ q, sc1 = some q → w.1 q.1 = 0 ∧ q.1 < H.size ∧ va_X q.1 q.2.1 q.2.2 s H := fun q hq => by
    rcases hs1 with h | h
    · rw [h] at hq
      cases hq
    · rw [h] at hq
      obtain ⟨g1, g2, g3⟩ := hL.2.2.2 q hq
      exact ⟨Classical.byContradiction (fun z => g1 (h2 _ z)), Nat.lt_of_lt_of_le g2 h3.1, g3.kept (h3.2.1 _ g2 g1)⟩
  have hpc : ∀ U : State, U.heap = H → s.WarmedH U.vm → lPc D' cy' As w H.size E1 sc1 As.toArray U := fun U hU hW => ⟨rfl, by rw [hU], by rw [hU]; exact h1, hE.pass hW (locs := locs) (by rw [hU]; exact h3) hin, gNc.moved hW.alike hL.2.1, by rw [hU]; exact hRO, fun q hq => ⟨(hSC q hq).1, (hSC q hq).2.1, by rw [hU]; exact (hSC q hq).2.2.moved hW.alike⟩⟩
  have hGW : GoodIn lwA (va_wsS own i y (.codeWith y bytes maxL ret hh :: lwA)) := by
    intro w hw
    have h1 : w ∈ lwA := by
      simp only [va_wsS, List.mem_append, List.mem_cons, List.not_mem_nil, or_false] at hw
      rcases hw with (h | h | h) | h | h
      · rw [h]; exact hlink
      · rw [h]; exact hsta
      · rw [h]; exact hini
      · rw [h]; exact hcode
      · exact h
    exact ⟨h1, good_of_word (List.mem_filter.mp h1).2⟩
  have hr : va_Run p l' e R s m args below meth c H locs cells slots rm1.cells rm1.slots (F0 m pc ls (As.reverse ++ st)) st (fQ D' cy' rv w w1 (fdom w H.size) As.toArray) (fdom w H.size) := vx_runSW (As := As) (rest := st) ⟨hx, hb, hml, hown, hts⟩ (hM hL.1 H.size) (vx_cwSW As.length hts hGW rfl rfl rfl hd9 hR) ⟨lPc_blind, hpc⟩ rfl rfl h4.1 rfl (lv_room hcat) hd hcs
  intro T hT X
  obtain ⟨v, st₀, t, T', LL, h0, X', hLL, e1, e2, ⟨hv, hb9, hk9, hF⟩, st9⟩ := hr T hT X
  cases hv
  have hS9 := f_keep h0 e1 h2 h3 hA hLL hF
  obtain ⟨hzz, hq⟩ := hF
  rw [h0] at hzz hq
  obtain ⟨t2, a1, b1⟩ := k T'.heap.size (by rw [e1]; exact hzz) hk9 T'.heap (locs ++ LL) ls (hz.after hk9 (by rw [e1]; exact hzz) (fun q h5 h6 => by rw [e1]; exact hq q h5 h6)) (by rw [e1]; exact hb9) (fun q h => h2 q (by rw [← hk9.1]; exact h)) hS9 h4 T' rfl X'
  exact ⟨t2, st9 t2 a1, b1⟩
theorem g_catchL (hC : fOK X cc nL own rm l D cy) {hh : List (Nat × Nat × Nat × Nat)} {E0 : gE} {sc : lScr} (hL : lOK X E0 sc) (hT : lTab X hh) {name : String} (pre : List ExceptionTableEntry) (x : ExceptionTableEntry) (suf : List ExceptionTableEntry) (hsplit : tableOf hh = pre ++ x :: suf)
    (hpass : ∀ z ∈ pre, z.catchType ≠ 0 ∧ ∃ nm : String, Cond.classLink own z.catchType nm ∈ lwA ∧ (exN ex, nm) ∈ ncL) (hcov : covers x pc = true) (h0 : x.catchType ≠ 0)
    (hlink : Cond.classLink own x.catchType name ∈ lwA) (hcast : Cond.castable (exN ex) name ∈ lwN) (k : ∀ q : Nat, gAt X cells slots nL w h E L [.ref q] x.handlerPc) : gXt X cells slots nL w h E L ex pc := by
  obtain ⟨p, l', e, R, s, m, args, below, meth, c, Q, D', cy', A⟩ := X
  obtain ⟨hx, hb, hml, hown, hts, hE, hA, rfl, rfl, rfl, rfl⟩ := hC
  intro H locs ls q ce rest hz h1 h2 h3 h4 g1 g2 g3
  refine vx_catch hown pre x suf (Eq.trans (show c.exceptionTable.toList = tableOf hh from hT) hsplit) (fun z hz9 => ?_) hcov h0 (hts _ hlink) (fNst_use (List.mem_filter.mp hcast).2 (hE.2.1 _ hcast)) g1 g2 g3 (k q H locs ls hz h1 h2 h3 h4)
  obtain ⟨n1, nm, n2, n3⟩ := hpass z hz9
  exact Or.inr ⟨n1, nm, hts _ n2, hL.2.1 _ n3⟩
theorem g_iret (hC : fOK X cc nL own rm l D cy) {v : Int32} {w0 : FW} (hEn : fEnd X (some .int) (some (.int v)) w0 w cells slots) (hs : fSm w w0) (hd : decode cc pc = .ok (.ireturn, 1)) : gAt X cells slots nL w h E L [.int v] pc := by
  obtain ⟨p, l', e, R, s, m, args, below, meth, c, Q, D', cy', A⟩ := X
  obtain ⟨hx, hb, hml, hown, hts, hE, hA, rfl, rfl, rfl, rfl⟩ := hC
  intro H locs ls hz h1 h2 h3 h4
  obtain ⟨r1, r2, rfl⟩ := hEn
  exact W.iret hx hb r1 (fun t ht hW => ⟨rfl, by rw [ht]; exact h1, hs, h3.F ht⟩) h3.2.2 hd r2
theorem g_lret (hC : fOK X cc nL own rm l D cy) {v : Int64} {w0 : FW} (hEn : fEnd X (some .long) (some (.long v)) w0 w cells slots) (hs : fSm w w0) (hd : decode cc pc = .ok (.lreturn, 1)) : gAt X cells slots nL w h E L [.long v] pc := by
  obtain ⟨p, l', e, R, s, m, args, below, meth, c, Q, D', cy', A⟩ := X
  obtain ⟨hx, hb, hml, hown, hts, hE, hA, rfl, rfl, rfl, rfl⟩ := hC
  intro H locs ls hz h1 h2 h3 h4
  obtain ⟨r1, r2, rfl⟩ := hEn
  exact W.lret hx hb r1 (fun t ht hW => ⟨rfl, by rw [ht]; exact h1, hs, h3.F ht⟩) h3.2.2 hd r2
theorem g_dret (hC : fOK X cc nL own rm l D cy) {v : UInt64} {w0 : FW} (hEn : fEnd X (some .double) (some (.double v)) w0 w cells slots) (hs : fSm w w0) (hd : decode cc pc = .ok (.dreturn, 1)) : gAt X cells slots nL w h E L [.double v] pc := by
  obtain ⟨p, l', e, R, s, m, args, below, meth, c, Q, D', cy', A⟩ := X
  obtain ⟨hx, hb, hml, hown, hts, hE, hA, rfl, rfl, rfl, rfl⟩ := hC
  intro H locs ls hz h1 h2 h3 h4
  obtain ⟨r1, r2, rfl⟩ := hEn
  exact W.dret hx hb r1 (fun t ht hW => ⟨rfl, by rw [ht]; exact h1, hs, h3.F ht⟩) h3.2.2 hd r2
theorem g_fret (hC : fOK X cc nL own rm l D cy) {v : UInt32} {w0 : FW} (hEn : fEnd X (some .float) (some (.float v)) w0 w cells slots) (hs : fSm w w0) (hd : decode cc pc = .ok (.freturn, 1)) : gAt X cells slots nL w h E L [.float v] pc := by
  obtain ⟨p, l', e, R, s, m, args, below, meth, c, Q, D', cy', A⟩ := X
  obtain ⟨hx, hb, hml, hown, hts, hE, hA, rfl, rfl, rfl, rfl⟩ := hC
  intro H locs ls hz h1 h2 h3 h4
  obtain ⟨r1, r2, rfl⟩ := hEn
  exact W.fret hx hb r1 (fun t ht hW => ⟨rfl, by rw [ht]; exact h1, hs, h3.F ht⟩) h3.2.2 hd r2
theorem g_zret (hC : fOK X cc nL own rm l D cy) {v : Int32} {ty : FieldType} {w0 : FW} (hEn : fEnd X (some ty) (some (.int v)) w0 w cells slots) (hs : fSm w w0) (hn : narrow ty (.int v) = .int v) (hd : decode cc pc = .ok (.ireturn, 1)) : gAt X cells slots nL w h E L [.int v] pc := by
  obtain ⟨p, l', e, R, s, m, args, below, meth, c, Q, D', cy', A⟩ := X
  obtain ⟨hx, hb, hml, hown, hts, hE, hA, rfl, rfl, rfl, rfl⟩ := hC
  intro H locs ls hz h1 h2 h3 h4
  obtain ⟨r1, r2, rfl⟩ := hEn
  exact W.zret hx hb r1 hn (fun t ht hW => ⟨rfl, by rw [ht]; exact h1, hs, h3.F ht⟩) h3.2.2 hd r2
theorem g_lcmp (hC : fOK X cc nL own rm l D cy) {x y : Int64} (hd : decode cc pc = .ok (.lcmp, 1)) (k : gAt X cells slots nL w h E L (.int (lg_cmp x y) :: st) (pc + 1)) : gAt X cells slots nL w h E L (.long y :: .long x :: st) pc := by
  obtain ⟨p, l', e, R, s, m, args, below, meth, c, Q, D', cy', A⟩ := X
  obtain ⟨hx, hb, hml, hown, hts, hE, hA, rfl, rfl, rfl, rfl⟩ := hC
  intro H locs ls hz h1 h2 h3 h4
  exact W.lcmp hx hb hd (k H locs ls hz h1 h2 h3 h4)
theorem g_dcmp (hC : fOK X cc nL own rm l D cy) {x y : UInt64} {op : CmpOp} (hd : decode cc pc = .ok (.dcmp op, 1)) (k : gAt X cells slots nL w h E L (.int (Op.cmpValue (FP.dcmp x y) op) :: st) (pc + 1)) : gAt X cells slots nL w h E L (.double y :: .double x :: st) pc := by
  obtain ⟨p, l', e, R, s, m, args, below, meth, c, Q, D', cy', A⟩ := X
  obtain ⟨hx, hb, hml, hown, hts, hE, hA, rfl, rfl, rfl, rfl⟩ := hC
  intro H locs ls hz h1 h2 h3 h4
  exact lv_dcmp hx hb hd (k H locs ls hz h1 h2 h3 h4)
theorem g_widen {n k' s' : Nat} (h1 : cells ≤ k') (h2 : slots ≤ s') (k : gAt X k' s' n w h E L st pc) : gAt X cells slots n w h E L st pc := by
  obtain ⟨p, l', e, R, s, m, args, below, meth, c, Q, D, cy, A⟩ := X
  intro H locs ls hz g1 g2 g3 g4
  exact W.widen h1 h2 (k H locs ls hz g1 g2 g3 g4)
theorem g_dload (hC : fOK X cc nL own rm l D cy) {i : Nat} {x : UInt64} (hd : decode cc pc = .ok (.dload i, 2)) (q : Nat) (hl : L[q]? = some (i, .double x)) (k : gAt X cells slots nL w h E L (.double x :: st) (pc + 2)) : gAt X cells slots nL w h E L st pc := by
  obtain ⟨p, l', e, R, s, m, args, below, meth, c, Q, D', cy', A⟩ := X
  obtain ⟨hx, hb, hml, hown, hts, hE, hA, rfl, rfl, rfl, rfl⟩ := hC
  intro H locs ls hz h1 h2 h3 h4
  exact lv_dload hx hb hd (lv_at h4 q hl) (k H locs ls hz h1 h2 h3 h4)
theorem g_dstore (hC : fOK X cc nL own rm l D cy) {i : Nat} {x : UInt64} {L' : List (Nat × Value)} (hd : decode cc pc = .ok (.dstore i, 2)) (hn : i + 1 < nL) (hl : (i, Value.double x) :: L.filter (fun q => !(q.1 == i) && (!(q.1 == i + 1) && !(q.1 + 1 == i && q.2.category == 2))) = L') (k : gAt X cells slots nL w h E L' st (pc + 2)) : gAt X cells slots nL w h E L (.double x :: st) pc := by
  obtain ⟨p, l', e, R, s, m, args, below, meth, c, Q, D', cy', A⟩ := X
  obtain ⟨hx, hb, hml, hown, hts, hE, hA, rfl, rfl, rfl, rfl⟩ := hC
  intro H locs ls hz h1 h2 h3 h4
  exact lv_dstore hx hb hd h4 hn hl (fun ls' h5 => k H locs ls' hz h1 h2 h3 h5)
theorem g_fload (hC : fOK X cc nL own rm l D cy) {i : Nat} {x : UInt32} (hd : decode cc pc = .ok (.fload i, 2)) (q : Nat) (hl : L[q]? = some (i, .float x)) (k : gAt X cells slots nL w h E L (.float x :: st) (pc + 2)) : gAt X cells slots nL w h E L st pc := by
  obtain ⟨p, l', e, R, s, m, args, below, meth, c, Q, D', cy', A⟩ := X
  obtain ⟨hx, hb, hml, hown, hts, hE, hA, rfl, rfl, rfl, rfl⟩ := hC
  intro H locs ls hz h1 h2 h3 h4
  exact lv_fload hx hb hd (lv_at h4 q hl) (k H locs ls hz h1 h2 h3 h4)
theorem g_fstore (hC : fOK X cc nL own rm l D cy) {i : Nat} {x : UInt32} {L' : List (Nat × Value)} (hd : decode cc pc = .ok (.fstore i, 2)) (hn : i < nL) (hl : (i, Value.float x) :: L.filter (fun q => !(q.1 == i) && !(q.1 + 1 == i && q.2.category == 2)) = L') (k : gAt X cells slots nL w h E L' st (pc + 2)) : gAt X cells slots nL w h E L (.float x :: st) pc := by
  obtain ⟨p, l', e, R, s, m, args, below, meth, c, Q, D', cy', A⟩ := X
  obtain ⟨hx, hb, hml, hown, hts, hE, hA, rfl, rfl, rfl, rfl⟩ := hC
  intro H locs ls hz h1 h2 h3 h4
  exact lv_fstore hx hb hd h4 hn hl (fun ls' h5 => k H locs ls' hz h1 h2 h3 h5)
theorem g_fcmp (hC : fOK X cc nL own rm l D cy) {x y : UInt32} {op : CmpOp} (hd : decode cc pc = .ok (.fcmp op, 1)) (k : gAt X cells slots nL w h E L (.int (Op.cmpValue (FP.fcmp x y) op) :: st) (pc + 1)) : gAt X cells slots nL w h E L (.float y :: .float x :: st) pc := by
  obtain ⟨p, l', e, R, s, m, args, below, meth, c, Q, D', cy', A⟩ := X
  obtain ⟨hx, hb, hml, hown, hts, hE, hA, rfl, rfl, rfl, rfl⟩ := hC
  intro H locs ls hz h1 h2 h3 h4
  exact lv_fcmp hx hb hd (k H locs ls hz h1 h2 h3 h4)
theorem g_ior (hC : fOK X cc nL own rm l D cy) {x y : Int32} (hd : decode cc pc = .ok (.ior, 1)) (k : gAt X cells slots nL w h E L (.int (x ||| y) :: st) (pc + 1)) : gAt X cells slots nL w h E L (.int y :: .int x :: st) pc := by
  obtain ⟨p, l', e, R, s, m, args, below, meth, c, Q, D', cy', A⟩ := X
  obtain ⟨hx, hb, hml, hown, hts, hE, hA, rfl, rfl, rfl, rfl⟩ := hC
  intro H locs ls hz h1 h2 h3 h4
  exact lv_ior hx hb hd (k H locs ls hz h1 h2 h3 h4)
theorem g_lmul (hC : fOK X cc nL own rm l D cy) {x y : Int64} (hd : decode cc pc = .ok (.lmul, 1)) (k : gAt X cells slots nL w h E L (.long (x * y) :: st) (pc + 1)) : gAt X cells slots nL w h E L (.long y :: .long x :: st) pc := by
  obtain ⟨p, l', e, R, s, m, args, below, meth, c, Q, D', cy', A⟩ := X
  obtain ⟨hx, hb, hml, hown, hts, hE, hA, rfl, rfl, rfl, rfl⟩ := hC
  intro H locs ls hz h1 h2 h3 h4
  exact lv_lmul hx hb hd (k H locs ls hz h1 h2 h3 h4)
theorem g_ladd (hC : fOK X cc nL own rm l D cy) {x y : Int64} (hd : decode cc pc = .ok (.ladd, 1)) (k : gAt X cells slots nL w h E L (.long (x + y) :: st) (pc + 1)) : gAt X cells slots nL w h E L (.long y :: .long x :: st) pc := by
  obtain ⟨p, l', e, R, s, m, args, below, meth, c, Q, D', cy', A⟩ := X
  obtain ⟨hx, hb, hml, hown, hts, hE, hA, rfl, rfl, rfl, rfl⟩ := hC
  intro H locs ls hz h1 h2 h3 h4
  exact lv_ladd hx hb hd (k H locs ls hz h1 h2 h3 h4)
theorem g_lload_n (hC : fOK X cc nL own rm l D cy) {j : Fin 4} {i : Nat} {x : Int64} (hd : decode cc pc = .ok (.lload_n j, 1)) (hi : (j : Nat) = i) (q : Nat) (hl : L[q]? = some (i, .long x)) (k : gAt X cells slots nL w h E L (.long x :: st) (pc + 1)) : gAt X cells slots nL w h E L st pc := by
  obtain ⟨p, l', e, R, s, m, args, below, meth, c, Q, D', cy', A⟩ := X
  obtain ⟨hx, hb, hml, hown, hts, hE, hA, rfl, rfl, rfl, rfl⟩ := hC
  intro H locs ls hz h1 h2 h3 h4
  exact lv_lload_n hx hb hd hi (lv_at h4 q hl) (k H locs ls hz h1 h2 h3 h4)
theorem g_lload (hC : fOK X cc nL own rm l D cy) {i : Nat} {x : Int64} (hd : decode cc pc = .ok (.lload i, 2)) (q : Nat) (hl : L[q]? = some (i, .long x)) (k : gAt X cells slots nL w h E L (.long x :: st) (pc + 2)) : gAt X cells slots nL w h E L st pc := by
  obtain ⟨p, l', e, R, s, m, args, below, meth, c, Q, D', cy', A⟩ := X
  obtain ⟨hx, hb, hml, hown, hts, hE, hA, rfl, rfl, rfl, rfl⟩ := hC
  intro H locs ls hz h1 h2 h3 h4
  exact lv_lload hx hb hd (lv_at h4 q hl) (k H locs ls hz h1 h2 h3 h4)
theorem g_lstore_n (hC : fOK X cc nL own rm l D cy) {j : Fin 4} {i : Nat} {x : Int64} {L' : List (Nat × Value)} (hd : decode cc pc = .ok (.lstore_n j, 1)) (hi : (j : Nat) = i) (hn : i + 1 < nL) (hl : (i, Value.long x) :: L.filter (fun q => !(q.1 == i) && (!(q.1 == i + 1) && !(q.1 + 1 == i && q.2.category == 2))) = L') (k : gAt X cells slots nL w h E L' st (pc + 1)) : gAt X cells slots nL w h E L (.long x :: st) pc := by
  obtain ⟨p, l', e, R, s, m, args, below, meth, c, Q, D', cy', A⟩ := X
  obtain ⟨hx, hb, hml, hown, hts, hE, hA, rfl, rfl, rfl, rfl⟩ := hC
  intro H locs ls hz h1 h2 h3 h4
  exact lv_lstore_n hx hb hd hi h4 hn hl (fun ls' h5 => k H locs ls' hz h1 h2 h3 h5)
theorem g_lstore (hC : fOK X cc nL own rm l D cy) {i : Nat} {x : Int64} {L' : List (Nat × Value)} (hd : decode cc pc = .ok (.lstore i, 2)) (hn : i + 1 < nL) (hl : (i, Value.long x) :: L.filter (fun q => !(q.1 == i) && (!(q.1 == i + 1) && !(q.1 + 1 == i && q.2.category == 2))) = L') (k : gAt X cells slots nL w h E L' st (pc + 2)) : gAt X cells slots nL w h E L (.long x :: st) pc := by
  obtain ⟨p, l', e, R, s, m, args, below, meth, c, Q, D', cy', A⟩ := X
  obtain ⟨hx, hb, hml, hown, hts, hE, hA, rfl, rfl, rfl, rfl⟩ := hC
  intro H locs ls hz h1 h2 h3 h4
  exact lv_lstore hx hb hd h4 hn hl (fun ls' h5 => k H locs ls' hz h1 h2 h3 h5)
theorem g_ldcI (hC : fOK X cc nL own rm l D cy) {ix : Nat} {v : Int32} (hq : Cond.constant own ix v ∈ lwA) (hd : decode cc pc = .ok (.ldc ix, 2)) (k : gAt X cells slots nL w h E L (.int v :: st) (pc + 2)) : gAt X cells slots nL w h E L st pc := by
  obtain ⟨p, l', e, R, s, m, args, below, meth, c, Q, D', cy', A⟩ := X
  obtain ⟨hx, hb, hml, hown, hts, hE, hA, rfl, rfl, rfl, rfl⟩ := hC
  intro H locs ls hz h1 h2 h3 h4
  exact lv_ldc hx hb hown (hts _ hq) hd (k H locs ls hz h1 h2 h3 h4)
theorem g_ldc2l (hC : fOK X cc nL own rm l D cy) {ix : Nat} {v : Int64} (hq : Cond.constantLong own ix v ∈ lwA) (hd : decode cc pc = .ok (.ldc2_w ix, 3)) (k : gAt X cells slots nL w h E L (.long v :: st) (pc + 3)) : gAt X cells slots nL w h E L st pc := by
  obtain ⟨p, l', e, R, s, m, args, below, meth, c, Q, D', cy', A⟩ := X
  obtain ⟨hx, hb, hml, hown, hts, hE, hA, rfl, rfl, rfl, rfl⟩ := hC
  intro H locs ls hz h1 h2 h3 h4
  exact lv_ldc2 hx hb hown (hts _ hq) hd (k H locs ls hz h1 h2 h3 h4)
theorem g_ldc2d (hC : fOK X cc nL own rm l D cy) {ix : Nat} {v : UInt64} (hq : Cond.constantDouble own ix v ∈ lwA) (hd : decode cc pc = .ok (.ldc2_w ix, 3)) (k : gAt X cells slots nL w h E L (.double v :: st) (pc + 3)) : gAt X cells slots nL w h E L st pc := by
  obtain ⟨p, l', e, R, s, m, args, below, meth, c, Q, D', cy', A⟩ := X
  obtain ⟨hx, hb, hml, hown, hts, hE, hA, rfl, rfl, rfl, rfl⟩ := hC
  intro H locs ls hz h1 h2 h3 h4
  exact lv_ldc2d hx hb hown (hts _ hq) hd (k H locs ls hz h1 h2 h3 h4)
theorem g_ldcF (hC : fOK X cc nL own rm l D cy) {ix : Nat} {v : UInt32} (hq : Cond.constantFloat own ix v ∈ lwA) (hd : decode cc pc = .ok (.ldc ix, 2)) (k : gAt X cells slots nL w h E L (.float v :: st) (pc + 2)) : gAt X cells slots nL w h E L st pc := by
  obtain ⟨p, l', e, R, s, m, args, below, meth, c, Q, D', cy', A⟩ := X
  obtain ⟨hx, hb, hml, hown, hts, hE, hA, rfl, rfl, rfl, rfl⟩ := hC
  intro H locs ls hz h1 h2 h3 h4
  exact lv_ldcf hx hb hown (hts _ hq) hd (k H locs ls hz h1 h2 h3 h4)
theorem g_laldR (hC : fOK X cc nL own rm l D cy) {E0 : gE} {sc : lScr} (hL : lOK X E0 sc) {a n : Nat} {i : Int32} {f : Nat → Int64} (he : E0 a = some (.inl (arrV (cy 5) n (fun k => .long (f k))))) (hin : vp_in i n) (hd : decode cc pc = .ok (.laload, 1)) (k : gAt X cells slots nL w h E L (.long (f i.toNatClampNeg) :: st) (pc + 1)) : gAt X cells slots nL w h E L (.int i :: .ref a :: st) pc := by
  obtain ⟨p, l', e, R, s, m, args, below, meth, c, Q, D', cy', A⟩ := X
  obtain ⟨hx, hb, hml, hown, hts, hE, hA, rfl, rfl, rfl, rfl⟩ := hC
  intro H locs ls hz h1 h2 h3 h4
  obtain ⟨g1, g2, g3⟩ := hL.2.2.1 a _ he
  have hc : H[a]? = some (arrV (cy' 5) n (fun k => .long (f k))) := (h3.2.1 a g2 g1).trans g3
  have hlt : i.toNatClampNeg < n := Nat.not_le.mp fun q => hin (Or.inr q)
  exact W.lald (v := .long (f i.toNatClampNeg)) hx hb hc ((hE.1.2 5 _ rfl).1 n (fun k => .long (f k))) (fun q => by cases q) (by show ¬ (i < 0 ∨ (arrV _ _ _).slots.size ≤ _); rw [arrV_size]; exact hin) (by show (arrV _ _ _).slots[_]? = _; rw [arrV_read _ _ hlt]) rfl rfl hd (k H locs ls hz h1 h2 h3 h4)
theorem g_ialdR (hC : fOK X cc nL own rm l D cy) {E0 : gE} {a n : Nat} {f : Nat → Int32} (hL : lOK X E0 (some (a, n, f))) {i : Int32} (hin : vp_in i n) (hd : decode cc pc = .ok (.iaload, 1)) (k : gAt X cells slots nL w h E L (.int (f i.toNatClampNeg) :: st) (pc + 1)) : gAt X cells slots nL w h E L (.int i :: .ref a :: st) pc := by
  obtain ⟨p, l', e, R, s, m, args, below, meth, c, Q, D', cy', A⟩ := X
  obtain ⟨hx, hb, hml, hown, hts, hE, hA, rfl, rfl, rfl, rfl⟩ := hC
  intro H locs ls hz h1 h2 h3 h4
  exact va_sld hx hb (hL.2.2.2 _ rfl).2.2 (hL.2.2.2 _ rfl).2.1 (hL.2.2.2 _ rfl).1 h3 hin hd (k H locs ls hz h1 h2 h3 h4)
theorem g_alenR (hC : fOK X cc nL own rm l D cy) {E0 : gE} {a n : Nat} {f : Nat → Int32} (hL : lOK X E0 (some (a, n, f))) (hd : decode cc pc = .ok (.arraylength, 1)) (k : gAt X cells slots nL w h E L (.int (Int32.ofNat n) :: st) (pc + 1)) : gAt X cells slots nL w h E L (.ref a :: st) pc := by
  obtain ⟨p, l', e, R, s, m, args, below, meth, c, Q, D', cy', A⟩ := X
  obtain ⟨hx, hb, hml, hown, hts, hE, hA, rfl, rfl, rfl, rfl⟩ := hC
  intro H locs ls hz h1 h2 h3 h4
  exact va_slen hx hb (hL.2.2.2 _ rfl).2.2 (hL.2.2.2 _ rfl).2.1 (hL.2.2.2 _ rfl).1 h3 hd (k H locs ls hz h1 h2 h3 h4)
/-- a loop of at most n rounds -/
def fLoopB {σ ρ : Type} (step : σ → Option (σ ⊕ ρ)) : Nat → σ → Option ρ
  | 0, _ => none
  | n + 1, s => match step s with
    | none => none
    | some (.inl s') => fLoopB step n s'
    | some (.inr r) => some r
theorem fLoopB_ind {σ ρ : Type} {step : σ → Option (σ ⊕ ρ)} {r : ρ} (Q : Nat → σ → Prop) (h : ∀ n s y, step s = some y → (∀ s', y = .inl s' → Q n s') → (∀ r', y = .inr r' → r' = r) → Q (n + 1) s) : ∀ n s, fLoopB step n s = some r → Q n s := by
  intro n
  induction n with
  | zero =>
    intro s hs
    cases hs
  | succ n ih =>
    intro s hs
    unfold fLoopB at hs
    cases e : step s with
    | none =>
      rw [e] at hs
      cases hs
    | some y =>
      rw [e] at hs
      refine h n s y e (fun s' hy => ?_) (fun r' hy => ?_)
      · subst hy
        exact ih s' hs
      · subst hy
        exact Option.some.inj hs
theorem g_callLk (hC : fOK X cc nL own rm l D cy) {E0 E1 : gE} {sc sc1 : lScr} (hL : lOK X E0 sc) (As : List Value) (hM : lSpec l D cy y (.code y bytes maxL ret) rm1 As E1 sc1 w w1 rv) (hs1 : sc1 = none ∨ sc1 = sc) (hE1 : ∀ a x, E1 a = some x → E a = some x ∨ E0 a = some x) (hcode : Cond.code y bytes maxL ret ∈ lwA) (hini : Cond.initialized y.cls ∈ lwA) (hlink : Cond.methodLink own i y ∈ lwA) (hsta : Cond.static y ∈ lwA) (hd9 : y.cls ≠ "java/lang/invoke/MethodHandle" ∧ y.cls ≠ "java/lang/invoke/VarHandle" ∧ (parseMethodDescriptor y.desc).map (fun d => d.parameters.length) = some As.length) (hR : rm1.frames + 1 ≤ rm.frames ∧ 8 + (maxL + 11) + rm1.locals ≤ rm.locals) (mc ms : Nat) (hmc : rm1.cells = mc) (hms : rm1.slots = ms) (hcs : cells + mc ≤ rm.cells ∧ slots + ms ≤ rm.slots) (hcat : (st.map fun v => v.category).sum ≤ 8) (hstk : stk = As.reverse ++ st) (hd : decode cc pc = .ok (.invokestatic i, 3)) (k : ∀ h', h ≤ h' → fSm w1 w → gAt X (cells + mc) (slots + ms) nL w1 h' E L (rv.toList ++ st) (pc + 3)) : gAt X cells slots nL w h E L stk pc := by
  subst hmc
  subst hms
  exact g_callL (hC := hC) (hL := hL) (As := As) (hM := hM) (hs1 := hs1) (hE1 := hE1) (hcode := hcode) (hini := hini) (hlink := hlink) (hsta := hsta) (hd9 := hd9) (hR := hR) (hcs := hcs) (hcat := hcat) (hstk := hstk) (hd := hd) (k := k)
theorem g_callLWk (hC : fOK X cc nL own rm l D cy) {E0 E1 : gE} {sc sc1 : lScr} (hL : lOK X E0 sc) (As : List Value) {hh : List (Nat × Nat × Nat × Nat)} (hM : lSpec l D cy y (.codeWith y bytes maxL ret hh) rm1 As E1 sc1 w w1 rv) (hs1 : sc1 = none ∨ sc1 = sc) (hE1 : ∀ a x, E1 a = some x → E a = some x ∨ E0 a = some x) (hcode : Cond.codeWith y bytes maxL ret hh ∈ lwA) (hini : Cond.initialized y.cls ∈ lwA) (hlink : Cond.methodLink own i y ∈ lwA) (hsta : Cond.static y ∈ lwA) (hd9 : y.cls ≠ "java/lang/invoke/MethodHandle" ∧ y.cls ≠ "java/lang/invoke/VarHandle" ∧ (parseMethodDescriptor y.desc).map (fun d => d.parameters.length) = some As.length) (hR : rm1.frames + 1 ≤ rm.frames ∧ 8 + (maxL + 11) + rm1.locals ≤ rm.locals) (mc ms : Nat) (hmc : rm1.cells = mc) (hms : rm1.slots = ms) (hcs : cells + mc ≤ rm.cells ∧ slots + ms ≤ rm.slots) (hcat : (st.map fun v => v.category).sum ≤ 8) (hstk : stk = As.reverse ++ st) (hd : decode cc pc = .ok (.invokestatic i, 3)) (k : ∀ h', h ≤ h' → fSm w1 w → gAt X (cells + mc) (slots + ms) nL w1 h' E L (rv.toList ++ st) (pc + 3)) : gAt X cells slots nL w h E L stk pc := by
  subst hmc
  subst hms
  exact g_callLW (hC := hC) (hL := hL) (As := As) (hM := hM) (hs1 := hs1) (hE1 := hE1) (hcode := hcode) (hini := hini) (hlink := hlink) (hsta := hsta) (hd9 := hd9) (hR := hR) (hcs := hcs) (hcat := hcat) (hstk := hstk) (hd := hd) (k := k)
theorem g_callVk (hC : fOK X cc nL own rm l D cy) (As : List Value) (hM : fSpec l D cy y bytes maxL ret rm1 (.ref b :: As) w w1 rv) (hcode : Cond.code y bytes maxL ret ∈ lwA) (hini : Cond.initialized y.cls ∈ lwA) (hlink : Cond.methodLink own i y ∈ lwA) (hinst : Cond.instanceMethod y ∈ lwA) (hsel : Cond.selects y.cls y y ∈ lwA) (hd9 : y.cls ≠ "java/lang/invoke/MethodHandle" ∧ y.cls ≠ "java/lang/invoke/VarHandle" ∧ (parseMethodDescriptor y.desc).map (fun d => d.parameters.length) = some As.length) (hcl : fCl[ci]? = some (y.cls, T, N)) (hk : w.1 b = ci + 1) (hR : rm1.frames + 1 ≤ rm.frames ∧ 8 + (maxL + 11) + rm1.locals ≤ rm.locals) (mc ms : Nat) (hmc : rm1.cells = mc) (hms : rm1.slots = ms) (hcs : cells + mc ≤ rm.cells ∧ slots + ms ≤ rm.slots) (hcat : (st.map fun v => v.category).sum ≤ 8) (hstk : stk = As.reverse ++ .ref b :: st) (hd : decode cc pc = .ok (.invokevirtual i, 3)) (k : ∀ h', h ≤ h' → fSm w1 w → gAt X (cells + mc) (slots + ms) nL w1 h' E L (rv.toList ++ st) (pc + 3)) : gAt X cells slots nL w h E L stk pc := by
  subst hmc
  subst hms
  exact g_callV (hC := hC) (As := As) (hM := hM) (hcode := hcode) (hini := hini) (hlink := hlink) (hinst := hinst) (hsel := hsel) (hd9 := hd9) (hcl := hcl) (hk := hk) (hR := hR) (hcs := hcs) (hcat := hcat) (hstk := hstk) (hd := hd) (k := k)
theorem g_callSk (hC : fOK X cc nL own rm l D cy) (As : List Value) (hM : fSpec l D cy y bytes maxL ret rm1 (As) w w1 rv) (hcode : Cond.code y bytes maxL ret ∈ lwA) (hini : Cond.initialized y.cls ∈ lwA) (hlink : Cond.methodLink own i y ∈ lwA) (hsta : Cond.static y ∈ lwA) (hd9 : y.cls ≠ "java/lang/invoke/MethodHandle" ∧ y.cls ≠ "java/lang/invoke/VarHandle" ∧ (parseMethodDescriptor y.desc).map (fun d => d.parameters.length) = some As.length) (hR : rm1.frames + 1 ≤ rm.frames ∧ 8 + (maxL + 11) + rm1.locals ≤ rm.locals) (mc ms : Nat) (hmc : rm1.cells = mc) (hms : rm1.slots = ms) (hcs : cells + mc ≤ rm.cells ∧ slots + ms ≤ rm.slots) (hcat : (st.map fun v => v.category).sum ≤ 8) (hstk : stk = As.reverse ++ st) (hd : decode cc pc = .ok (.invokestatic i, 3)) (k : ∀ h', h ≤ h' → fSm w1 w → gAt X (cells + mc) (slots + ms) nL w1 h' E L (rv.toList ++ st) (pc + 3)) : gAt X cells slots nL w h E L stk pc := by
  subst hmc
  subst hms
  exact g_callS (hC := hC) (As := As) (hM := hM) (hcode := hcode) (hini := hini) (hlink := hlink) (hsta := hsta) (hd9 := hd9) (hR := hR) (hcs := hcs) (hcat := hcat) (hstk := hstk) (hd := hd) (k := k)
end GWRAP
theorem cell_back {N n k c u : Nat} (h : n + 1 ≤ N) (hu : u ≤ k) : (N - (n + 1)) * k + (c + u) ≤ (N - n) * k + c := by
  have e : N - n = (N - (n + 1)) + 1 := by omega
  rw [e, Nat.add_mul, Nat.one_mul]
  generalize (N - (n + 1)) * k = z
  omega
theorem cell_backB {B N n k c u : Nat} (h : n + 1 ≤ N) (hu : u ≤ k) : B + (N - (n + 1)) * k + (c + u) ≤ B + (N - n) * k + c := by
  have := cell_back (c := c) h hu
  omega
theorem fLoopB_use {σ ρ : Type} {step : σ → Option (σ ⊕ ρ)} {r : ρ} {N : Nat} {s0 : σ} (hx : fLoopB step N s0 = some r) (Q : Nat → σ → Prop) (h : ∀ n s y, step s = some y → (∀ s', y = .inl s' → Q n s') → (∀ r', y = .inr r' → r' = r) → Q (n + 1) s) : Q N s0 := fLoopB_ind Q h N s0 hx
