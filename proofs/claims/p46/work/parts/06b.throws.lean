/-! methods that return or throw -/
def exN (e : Nat) : String := match e with
  | 0 => "java/lang/IllegalStateException"
  | 1 => "java/lang/IllegalArgumentException"
  | 2 => "java/lang/IndexOutOfBoundsException"
  | 3 => "java/lang/ArithmeticException"
  | 4 => "java/lang/UnsupportedOperationException"
  | _ => "java/util/NoSuchElementException"
def fQX (D : va_G) (cy : Nat → ClassId) (out : Option Value ⊕ Nat) (w w' : FW) (A : Nat → Prop) : Array Value → State → Outcome → State → Prop := fun _ st oc t => ∃ rv : Option Value, out = .inl rv ∧ oc = .returned rv ∧ FH D cy w' t.heap ∧ fSm w' w ∧ va_F A st t
def fXC (D : va_G) (cy : Nat → ClassId) (out : Option Value ⊕ Nat) (w w' : FW) (A : Nat → Prop) : String → State → State → Prop := fun E st t => ∃ e : Nat, out = .inr e ∧ E = exN e ∧ FH D cy w' t.heap ∧ fSm w' w ∧ va_F A st t
def fSpecX (l : Launch) (D : va_G) (cy : Nat → ClassId) (y : MethodName) (cc : ByteArray) (nL : Nat) (ret : Option FieldType) (rm : Room) (As : List Value) (w w' : FW) (out : Option Value ⊕ Nat) : Prop :=
  l.stackTraces = false → ∀ sz : Nat, vx_Met l y (.code y cc nL ret :: lwA) rm (fPc D cy As w sz) (fQX D cy out w w' (fdom w sz)) (fXC D cy out w w' (fdom w sz)) rm.cells rm.slots (fdom w sz)
def fEndX (X : FX) (ret : Option FieldType) (out : Option Value ⊕ Nat) (w0 w' : FW) (mc ms : Nat) : Prop := match X with
  | (p, l, e, R, s, m, args, below, meth, c, Q, D, cy, A) => meth.sig.returnType = ret ∧ meth.locks = false ∧ (∀ x ∈ c.exceptionTable.toList, False) ∧ l.stackTraces = false ∧ Q = vx_MQ below (fQX D cy out w0 w' A) (fXC D cy out w0 w' A) args s mc ms A
/-- what a result says: a value or an exception -/
def fOI (r : Int32 ⊕ Nat) : Option Value ⊕ Nat := match r with
  | .inl v => .inl (some (.int v))
  | .inr e => .inr e
def fOR (r : Nat ⊕ Nat) : Option Value ⊕ Nat := match r with
  | .inl v => .inl (some (.ref v))
  | .inr e => .inr e
def fOU (r : Unit ⊕ Nat) : Option Value ⊕ Nat := match r with
  | .inl _ => .inl none
  | .inr e => .inr e
def fOD (r : UInt64 ⊕ Nat) : Option Value ⊕ Nat := match r with
  | .inl v => .inl (some (.double v))
  | .inr e => .inr e
def fOF (r : UInt32 ⊕ Nat) : Option Value ⊕ Nat := match r with
  | .inl v => .inl (some (.float v))
  | .inr e => .inr e
theorem f_beginX {l : Launch} {D : va_G} {cy : Nat → ClassId} {y : MethodName} {cc : ByteArray} {nL : Nat} {ret : Option FieldType} {rm : Room} {As : List Value} {w w' : FW} {out : Option Value ⊕ Nat} (hy : plainName y.cls = true) (hn : (lg_sl As).length ≤ nL)
    (body : ∀ X : FX, fOK X cc nL y.cls rm l D cy → fEndX X ret out w w' rm.cells rm.slots → fAt X 0 0 nL w (lv_args 0 As) [] 0) : fSpecX l D cy y cc nL ret rm As w w' out := by
  intro hst sz
  refine vx_ofW (cc := cc) (maxL := nL) (ret := ret) hy rfl ?_
  intro p e s m args below meth c s₁ B hml hout hv
  obtain ⟨rfl, hsz, hP, hE⟩ := hv
  subst hsz
  have hts := atoms_spec (ws := .code y cc nL ret :: lwA) B.pre
  have hl := lv_entry As hn
  rw [lg_entry_eq]
  exact body (p, l, e, rm, s, m, As.toArray, below, meth, c, _, D, cy, fdom w s.heap.size) ⟨B.exec, B.bytes, hml, findClass_of_methodNamed B.named, fun w hw => hts w (List.mem_cons_of_mem _ hw), hE, fun q h => Or.inr h, rfl, rfl, rfl, rfl⟩ ⟨B.returns, B.notSynchronized, hout, hst, rfl⟩ s.heap [] _ hP (fun q h => Or.inl h) va_S.rf hl
theorem FH.grow {D : va_G} {cy : Nat → ClassId} {w : FW} {H H1 : Heap} (h : FH D cy w H) (hz : H.size ≤ H1.size) (hq : ∀ q, q < H.size → H1[q]? = H[q]?) : FH D cy w H1 := by
  refine ⟨fun a ha => Nat.lt_of_lt_of_le (h.1 a ha) hz, fun a => ?_⟩
  by_cases ha : w.1 a = 0
  · refine ⟨fun ci h1 _ => ?_, fun j h1 _ => ?_, fun j h1 _ => ?_⟩ <;> omega
  · exact (h.2 a).kept rfl rfl (hq a (h.1 a ha)) (fun _ _ => rfl) (fun _ _ => rfl)
theorem fNst_use {w : Cond} {args : Array Value} {u : State} (hg : fNst w = true) (h : va_Nw w u) : w.before args u = true := by
  by_cases ho : ∃ C : String, w = .arrayOver (.object C)
  · obtain ⟨C, rfl⟩ := ho
    exact va_AO.use (C := C) h
  · have ht : w.onTables = true := by
      cases w <;> first | rfl | (rename_i ty; cases ty <;> first | exact absurd ⟨_, rfl⟩ ho | (simp [fNst] at hg)) | (simp [fNst] at hg)
    exact va_Nw.use ht h
section FTHROW0
variable {X : FX} {cc : ByteArray} {nL : Nat} {own : String} {rm : Room} {l : Launch} {D : va_G} {cy : Nat → ClassId}
theorem f_st (hC : fOK X cc nL own rm l D cy) {ret : Option FieldType} {out : Option Value ⊕ Nat} {w0 w' : FW} {mc ms : Nat} (hEn : fEndX X ret out w0 w' mc ms) : l.stackTraces = false := by
  obtain ⟨p, l', e, R, s, m, args, below, meth, c, Q, D', cy', A⟩ := X
  obtain ⟨hx, hb, hml, hown, hts, hE, hA, rfl, rfl, rfl, rfl⟩ := hC
  exact hEn.2.2.2.1
end FTHROW0
section FTHROW
variable {X : FX} {cc : ByteArray} {nL : Nat} {own : String} {rm : Room} {l : Launch} {D : va_G} {cy : Nat → ClassId} {cells slots pc : Nat} {w w1 : FW} {L : List (Nat × Value)} {st stk : List Value}
theorem f_widen {n k' s' : Nat} (h1 : cells ≤ k') (h2 : slots ≤ s') (k : fAt X k' s' n w L st pc) : fAt X cells slots n w L st pc := by
  obtain ⟨p, l', e, R, s, m, args, below, meth, c, Q, D', cy', A⟩ := X
  intro H locs ls g1 g2 g3 g4
  exact W.widen h1 h2 (k H locs ls g1 g2 g3 g4)
theorem f_iretX {v : Int32} (hC : fOK X cc nL own rm l D cy) {cells slots : Nat} {w0 : FW} (hEn : fEndX X (some .int) (.inl (some (.int v))) w0 w cells slots) (hs : fSm w w0) (hd : decode cc pc = .ok (.ireturn, 1)) : fAt X cells slots nL w L [.int v] pc := by
  obtain ⟨p, l', e, R, s, m, args, below, meth, c, Q, D', cy', A⟩ := X
  obtain ⟨hx, hb, hml, hown, hts, hE, hA, rfl, rfl, rfl, rfl⟩ := hC
  intro H locs ls h1 h2 h3 h4
  obtain ⟨r1, r2, -, -, rfl⟩ := hEn
  exact vx_ret (W.iret hx hb r1 (fun t ht hW => ⟨_, rfl, rfl, by rw [ht]; exact h1, hs, h3.F ht⟩) h3.2.2 hd r2)
theorem f_zretX {v : Int32} {ty : FieldType} (hC : fOK X cc nL own rm l D cy) {cells slots : Nat} {w0 : FW} (hEn : fEndX X (some ty) (.inl (some (.int v))) w0 w cells slots) (hs : fSm w w0) (hn : narrow ty (.int v) = .int v) (hd : decode cc pc = .ok (.ireturn, 1)) : fAt X cells slots nL w L [.int v] pc := by
  obtain ⟨p, l', e, R, s, m, args, below, meth, c, Q, D', cy', A⟩ := X
  obtain ⟨hx, hb, hml, hown, hts, hE, hA, rfl, rfl, rfl, rfl⟩ := hC
  intro H locs ls h1 h2 h3 h4
  obtain ⟨r1, r2, -, -, rfl⟩ := hEn
  exact vx_ret (W.zret hx hb r1 hn (fun t ht hW => ⟨_, rfl, rfl, by rw [ht]; exact h1, hs, h3.F ht⟩) h3.2.2 hd r2)
theorem f_aretX {v : Nat} {C : String} (hC : fOK X cc nL own rm l D cy) {cells slots : Nat} {w0 : FW} (hEn : fEndX X (some (.object C)) (.inl (some (.ref v))) w0 w cells slots) (hs : fSm w w0) (hd : decode cc pc = .ok (.areturn, 1)) : fAt X cells slots nL w L [.ref v] pc := by
  obtain ⟨p, l', e, R, s, m, args, below, meth, c, Q, D', cy', A⟩ := X
  obtain ⟨hx, hb, hml, hown, hts, hE, hA, rfl, rfl, rfl, rfl⟩ := hC
  intro H locs ls h1 h2 h3 h4
  obtain ⟨r1, r2, -, -, rfl⟩ := hEn
  exact vx_ret (W.aret hx hb r1 (Or.inl ⟨_, rfl⟩) (Or.inr ⟨_, rfl⟩) (fun t ht hW => ⟨_, rfl, rfl, by rw [ht]; exact h1, hs, h3.F ht⟩) h3.2.2 hd r2)
theorem f_dretX {v : UInt64} (hC : fOK X cc nL own rm l D cy) {cells slots : Nat} {w0 : FW} (hEn : fEndX X (some .double) (.inl (some (.double v))) w0 w cells slots) (hs : fSm w w0) (hd : decode cc pc = .ok (.dreturn, 1)) : fAt X cells slots nL w L [.double v] pc := by
  obtain ⟨p, l', e, R, s, m, args, below, meth, c, Q, D', cy', A⟩ := X
  obtain ⟨hx, hb, hml, hown, hts, hE, hA, rfl, rfl, rfl, rfl⟩ := hC
  intro H locs ls h1 h2 h3 h4
  obtain ⟨r1, r2, -, -, rfl⟩ := hEn
  exact vx_ret (W.dret hx hb r1 (fun t ht hW => ⟨_, rfl, rfl, by rw [ht]; exact h1, hs, h3.F ht⟩) h3.2.2 hd r2)
theorem f_fretX {v : UInt32} (hC : fOK X cc nL own rm l D cy) {cells slots : Nat} {w0 : FW} (hEn : fEndX X (some .float) (.inl (some (.float v))) w0 w cells slots) (hs : fSm w w0) (hd : decode cc pc = .ok (.freturn, 1)) : fAt X cells slots nL w L [.float v] pc := by
  obtain ⟨p, l', e, R, s, m, args, below, meth, c, Q, D', cy', A⟩ := X
  obtain ⟨hx, hb, hml, hown, hts, hE, hA, rfl, rfl, rfl, rfl⟩ := hC
  intro H locs ls h1 h2 h3 h4
  obtain ⟨r1, r2, -, -, rfl⟩ := hEn
  exact vx_ret (W.fret hx hb r1 (fun t ht hW => ⟨_, rfl, rfl, by rw [ht]; exact h1, hs, h3.F ht⟩) h3.2.2 hd r2)
theorem f_vretX (hC : fOK X cc nL own rm l D cy) {cells slots : Nat} {w0 : FW} (hEn : fEndX X none (.inl none) w0 w cells slots) (hs : fSm w w0) (hd : decode cc pc = .ok (.return_, 1)) : fAt X cells slots nL w L [] pc := by
  obtain ⟨p, l', e, R, s, m, args, below, meth, c, Q, D', cy', A⟩ := X
  obtain ⟨hx, hb, hml, hown, hts, hE, hA, rfl, rfl, rfl, rfl⟩ := hC
  intro H locs ls h1 h2 h3 h4
  obtain ⟨r1, r2, -, -, rfl⟩ := hEn
  exact vx_ret (W.vret hx hb r1 (fun t ht hW => ⟨_, rfl, rfl, by rw [ht]; exact h1, hs, h3.F ht⟩) h3.2.2 hd r2)
theorem f_throwS (hC : fOK X cc nL own rm l D cy) {ret : Option FieldType} {e : Nat} {w0 : FW} {mc ms : Nat} (hEn : fEndX X ret (.inr e) w0 w mc ms) (hs : fSm w w0) {cls text : String} {names : List String} {ik is ic : Nat} (si : Nat) (he : exN e = cls) (hcls : Bundle.fit cls = true) (hnames : ∀ n ∈ names, Bundle.fit n = true)
    (hk : Cond.classLink own ik cls ∈ lwA) (hini : Cond.initialized cls ∈ lwA) (hstr : fStrL[si]? = some (own, is, text)) (hat : (vx_atS own ic cls names).all (fun w => decide (w ∈ lwA) || decide (w ∈ lwN)) = true) (hgood : (Cond.classLink own ik cls :: Cond.initialized cls :: vx_atS own ic cls names).all vx_ot = true)
    (d0 : decode cc pc = .ok (.new ik, 3)) (d3 : decode cc (pc + 3) = .ok (.dup, 1)) (d4 : decode cc (pc + 4) = .ok (.ldc is, 2)) (d6 : decode cc (pc + 6) = .ok (.invokespecial ic, 3)) (d9 : decode cc (pc + 9) = .ok (.athrow, 1))
    (hRframes : names.length + 3 < rm.frames) (hRlocals : (st.map fun v => v.category).sum + (13 * (names.length + 1) + 43) ≤ rm.locals) (hRcells : cells + 1 ≤ rm.cells) (hRslots : slots + 6 ≤ rm.slots) (hc : cells + 1 ≤ mc) (hsl : slots + 6 ≤ ms) : fAt X cells slots nL w L st pc := by
  obtain ⟨p, l', e, R, s, m, args, below, meth, c, Q, D', cy', A⟩ := X
  obtain ⟨hx, hb, hml, hown, hts, hE, hA, rfl, rfl, rfl, rfl⟩ := hC
  intro H locs ls h1 h2 h3 h4
  obtain ⟨r1, r2, r3, r4, rfl⟩ := hEn
  refine vx_throwS hx hb r4 hown hcls hnames (hts _ hk) (hts _ hini) (hE.2.2.1 si _ hstr) (fun w hw => ?_) (fun w hw => List.all_eq_true.mp hgood w hw) hE.2.2.2.2.1 hE.2.2.2.2.2.1 h3 (by rw [hml]; exact h4.1) d0 d3 d4 d6 d9 (fun x hx => (r3 x hx).elim) hRframes hRlocals hRcells hRslots r2 (fun t hal hz hq => ?_) h3.2.2 hc hsl
  · have h9 := List.all_eq_true.mp hat w hw
    simp only [Bool.or_eq_true, decide_eq_true_eq] at h9
    rcases h9 with h9 | h9
    · exact hts _ h9
    · exact fNst_use (List.mem_filter.mp h9).2 (hE.2.1 _ h9)
  · exact ⟨_, rfl, he.symm, h1.grow hz hq, hs, ⟨Nat.le_trans h3.1 hz, fun q g1 g2 => by rw [hq q (Nat.lt_of_lt_of_le g1 h3.1)]; exact h3.2.1 q g1 g2⟩⟩
theorem f_throwSW (hC : fOK X cc nL own rm l D cy) {ret : Option FieldType} {e : Nat} {w0 : FW} {mc ms : Nat} (hEn : fEndX X ret (.inr e) w0 w mc ms) (hs : fSm w w0) {cls text : String} {names : List String} {ik is ic : Nat} (si : Nat) (he : exN e = cls) (hcls : Bundle.fit cls = true) (hnames : ∀ n ∈ names, Bundle.fit n = true)
    (hk : Cond.classLink own ik cls ∈ lwA) (hini : Cond.initialized cls ∈ lwA) (hstr : fStrL[si]? = some (own, is, text)) (hat : (vx_atS own ic cls names).all (fun w => decide (w ∈ lwA) || decide (w ∈ lwN)) = true) (hgood : (Cond.classLink own ik cls :: Cond.initialized cls :: vx_atS own ic cls names).all vx_ot = true)
    (d0 : decode cc pc = .ok (.new ik, 3)) (d3 : decode cc (pc + 3) = .ok (.dup, 1)) (d4 : decode cc (pc + 4) = .ok (.ldc_w is, 3)) (d6 : decode cc (pc + 7) = .ok (.invokespecial ic, 3)) (d9 : decode cc (pc + 10) = .ok (.athrow, 1))
    (hRframes : names.length + 3 < rm.frames) (hRlocals : (st.map fun v => v.category).sum + (13 * (names.length + 1) + 43) ≤ rm.locals) (hRcells : cells + 1 ≤ rm.cells) (hRslots : slots + 6 ≤ rm.slots) (hc : cells + 1 ≤ mc) (hsl : slots + 6 ≤ ms) : fAt X cells slots nL w L st pc := by
  obtain ⟨p, l', e, R, s, m, args, below, meth, c, Q, D', cy', A⟩ := X
  obtain ⟨hx, hb, hml, hown, hts, hE, hA, rfl, rfl, rfl, rfl⟩ := hC
  intro H locs ls h1 h2 h3 h4
  obtain ⟨r1, r2, r3, r4, rfl⟩ := hEn
  refine vx_throwSW hx hb r4 hown hcls hnames (hts _ hk) (hts _ hini) (hE.2.2.1 si _ hstr) (fun w hw => ?_) (fun w hw => List.all_eq_true.mp hgood w hw) hE.2.2.2.2.1 hE.2.2.2.2.2.1 h3 (by rw [hml]; exact h4.1) d0 d3 d4 d6 d9 (fun x hx => (r3 x hx).elim) hRframes hRlocals hRcells hRslots r2 (fun t hal hz hq => ?_) h3.2.2 hc hsl
  · have h9 := List.all_eq_true.mp hat w hw
    simp only [Bool.or_eq_true, decide_eq_true_eq] at h9
    rcases h9 with h9 | h9
    · exact hts _ h9
    · exact fNst_use (List.mem_filter.mp h9).2 (hE.2.1 _ h9)
  · exact ⟨_, rfl, he.symm, h1.grow hz hq, hs, ⟨Nat.le_trans h3.1 hz, fun q g1 g2 => by rw [hq q (Nat.lt_of_lt_of_le g1 h3.1)]; exact h3.2.1 q g1 g2⟩⟩
theorem f_throwXS (hC : fOK X cc nL own rm l D cy) {ret : Option FieldType} {e : Nat} {w0 : FW} {mc ms : Nat} (hEn : fEndX X ret (.inr e) w0 w mc ms) (hs : fSm w w0) {cls text : String} {Ys : String} {r : List String} {ix : Nat} {rx : ByteArray} {ik is ic : Nat} (si : Nat) (he : exN e = cls) (hcls : Bundle.fit cls = true) (hnY : Bundle.fit Ys = true) (hnames : ∀ n ∈ r, Bundle.fit n = true) (x0 : decode rx 0 = .ok (.aload_n 0, 1)) (x1 : decode rx 1 = .ok (.aload_n 1, 1)) (x2 : decode rx 2 = .ok (.invokespecial ix, 3)) (x5 : decode rx 5 = .ok (.return_, 1))
    (hk : Cond.classLink own ik cls ∈ lwA) (hini : Cond.initialized cls ∈ lwA) (hstr : fStrL[si]? = some (own, is, text)) (hat : (nsS own ic cls Ys ix rx r).all (fun w => decide (w ∈ lwA) || decide (w ∈ lwN)) = true) (hgood : (Cond.classLink own ik cls :: Cond.initialized cls :: nsS own ic cls Ys ix rx r).all vx_ot = true)
    (d0 : decode cc pc = .ok (.new ik, 3)) (d3 : decode cc (pc + 3) = .ok (.dup, 1)) (d4 : decode cc (pc + 4) = .ok (.ldc is, 2)) (d6 : decode cc (pc + 6) = .ok (.invokespecial ic, 3)) (d9 : decode cc (pc + 9) = .ok (.athrow, 1))
    (hRframes : r.length + 4 < rm.frames) (hRlocals : (st.map fun v => v.category).sum + (13 * (r.length + 2) + 43) ≤ rm.locals) (hRcells : cells + 1 ≤ rm.cells) (hRslots : slots + 6 ≤ rm.slots) (hc : cells + 1 ≤ mc) (hsl : slots + 6 ≤ ms) : fAt X cells slots nL w L st pc := by
  obtain ⟨p, l', e, R, s, m, args, below, meth, c, Q, D', cy', A⟩ := X
  obtain ⟨hx, hb, hml, hown, hts, hE, hA, rfl, rfl, rfl, rfl⟩ := hC
  intro H locs ls h1 h2 h3 h4
  obtain ⟨r1, r2, r3, r4, rfl⟩ := hEn
  refine ns_throwS hx hb r4 x0 x1 x2 x5 hown hcls hnY hnames (hts _ hk) (hts _ hini) (hE.2.2.1 si _ hstr) (fun w hw => ?_) (fun w hw => List.all_eq_true.mp hgood w hw) hE.2.2.2.2.1 hE.2.2.2.2.2.1 h3 (by rw [hml]; exact h4.1) d0 d3 d4 d6 d9 (fun x hx => (r3 x hx).elim) hRframes hRlocals hRcells hRslots r2 (fun t hal hz hq => ?_) h3.2.2 hc hsl
  · have h9 := List.all_eq_true.mp hat w hw
    simp only [Bool.or_eq_true, decide_eq_true_eq] at h9
    rcases h9 with h9 | h9
    · exact hts _ h9
    · exact fNst_use (List.mem_filter.mp h9).2 (hE.2.1 _ h9)
  · exact ⟨_, rfl, he.symm, h1.grow hz hq, hs, ⟨Nat.le_trans h3.1 hz, fun q g1 g2 => by rw [hq q (Nat.lt_of_lt_of_le g1 h3.1)]; exact h3.2.1 q g1 g2⟩⟩
theorem f_throwXSW (hC : fOK X cc nL own rm l D cy) {ret : Option FieldType} {e : Nat} {w0 : FW} {mc ms : Nat} (hEn : fEndX X ret (.inr e) w0 w mc ms) (hs : fSm w w0) {cls text : String} {Ys : String} {r : List String} {ix : Nat} {rx : ByteArray} {ik is ic : Nat} (si : Nat) (he : exN e = cls) (hcls : Bundle.fit cls = true) (hnY : Bundle.fit Ys = true) (hnames : ∀ n ∈ r, Bundle.fit n = true) (x0 : decode rx 0 = .ok (.aload_n 0, 1)) (x1 : decode rx 1 = .ok (.aload_n 1, 1)) (x2 : decode rx 2 = .ok (.invokespecial ix, 3)) (x5 : decode rx 5 = .ok (.return_, 1))
    (hk : Cond.classLink own ik cls ∈ lwA) (hini : Cond.initialized cls ∈ lwA) (hstr : fStrL[si]? = some (own, is, text)) (hat : (nsS own ic cls Ys ix rx r).all (fun w => decide (w ∈ lwA) || decide (w ∈ lwN)) = true) (hgood : (Cond.classLink own ik cls :: Cond.initialized cls :: nsS own ic cls Ys ix rx r).all vx_ot = true)
    (d0 : decode cc pc = .ok (.new ik, 3)) (d3 : decode cc (pc + 3) = .ok (.dup, 1)) (d4 : decode cc (pc + 4) = .ok (.ldc_w is, 3)) (d6 : decode cc (pc + 7) = .ok (.invokespecial ic, 3)) (d9 : decode cc (pc + 10) = .ok (.athrow, 1))
    (hRframes : r.length + 4 < rm.frames) (hRlocals : (st.map fun v => v.category).sum + (13 * (r.length + 2) + 43) ≤ rm.locals) (hRcells : cells + 1 ≤ rm.cells) (hRslots : slots + 6 ≤ rm.slots) (hc : cells + 1 ≤ mc) (hsl : slots + 6 ≤ ms) : fAt X cells slots nL w L st pc := by
  obtain ⟨p, l', e, R, s, m, args, below, meth, c, Q, D', cy', A⟩ := X
  obtain ⟨hx, hb, hml, hown, hts, hE, hA, rfl, rfl, rfl, rfl⟩ := hC
  intro H locs ls h1 h2 h3 h4
  obtain ⟨r1, r2, r3, r4, rfl⟩ := hEn
  refine ns_throwSW hx hb r4 x0 x1 x2 x5 hown hcls hnY hnames (hts _ hk) (hts _ hini) (hE.2.2.1 si _ hstr) (fun w hw => ?_) (fun w hw => List.all_eq_true.mp hgood w hw) hE.2.2.2.2.1 hE.2.2.2.2.2.1 h3 (by rw [hml]; exact h4.1) d0 d3 d4 d6 d9 (fun x hx => (r3 x hx).elim) hRframes hRlocals hRcells hRslots r2 (fun t hal hz hq => ?_) h3.2.2 hc hsl
  · have h9 := List.all_eq_true.mp hat w hw
    simp only [Bool.or_eq_true, decide_eq_true_eq] at h9
    rcases h9 with h9 | h9
    · exact hts _ h9
    · exact fNst_use (List.mem_filter.mp h9).2 (hE.2.1 _ h9)
  · exact ⟨_, rfl, he.symm, h1.grow hz hq, hs, ⟨Nat.le_trans h3.1 hz, fun q g1 g2 => by rw [hq q (Nat.lt_of_lt_of_le g1 h3.1)]; exact h3.2.1 q g1 g2⟩⟩
end FTHROW
section FAX
variable {p : Program} {l : Launch} {e : Env} {R : Room} {s : State} {m : MethodId} {args : Array Value} {below : List Frame} {meth : Method} {c : Code} {H : Heap} {locs : List Loc} {cells slots mc ms : Nat} {Q : State → Prop} {D : va_G} {cy : Nat → ClassId} {w w1 : FW} {A : Nat → Prop} {rv : Option Value} {rest st0 : List Value} {a : Array Value} {pc : Nat} {ls : Array Slot} {ex : Nat}
theorem f_keep {st₀ t T' : State} {L : List Loc} (h0 : st₀.heap = H) (e1 : T'.heap = t.heap) (h2 : ∀ q, w.1 q ≠ 0 → A q) (hS : va_S A s.heap H locs) (hA : ∀ q, s.heap.size ≤ q → A q) (hL : ∀ q ∈ L, fdom w H.size q.base) (hF : va_F (fdom w H.size) st₀ t) : va_S A s.heap T'.heap (locs ++ L) := by
  obtain ⟨hz, hq⟩ := hF
  rw [h0] at hz hq
  have hin : ∀ q, fdom w H.size q → A q := fun q hq => hq.elim (h2 q) (fun z => hA q (Nat.le_trans hS.1 z))
  exact ⟨Nat.le_trans hS.1 (by rw [e1]; exact hz), fun q h1 h3 => by rw [e1, hq q (Nat.lt_of_lt_of_le h1 hS.1) (fun z => h3 (hin q z))]; exact hS.2.1 q h1 h3, fun q hq => by
      rcases List.mem_append.mp hq with h | h
      · exact hS.2.2 q h
      · exact hin _ (hL q h)⟩
theorem f_afterR (hr : vx_Run p l e R s m args below meth c H locs cells slots mc ms (F0 m pc ls st0) rest (fQX D cy (.inl rv) w w1 (fdom w H.size) a) (fXC D cy (.inl rv) w w1 (fdom w H.size)) (fdom w H.size)) (h2 : ∀ q, w.1 q ≠ 0 → A q) (hS : va_S A s.heap H locs) (hA : ∀ q, s.heap.size ≤ q → A q)
    (kk : ∀ (H1 : Heap) (locs1 : List Loc), fSm w1 w → FH D cy w1 H1 → (∀ q, w1.1 q ≠ 0 → A q) → va_S A s.heap H1 locs1 → W p l e R s m args below meth c H1 locs1 (cells + mc) (slots + ms) Q (F0 m (pc + 3) ls (rv.toList ++ rest))) : W p l e R s m args below meth c H locs cells slots Q (F0 m pc ls st0) := by
  intro T hT X
  rcases hr T hT X with ⟨v, st₀, t, T', L, h0, X', hL, e1, e2, ⟨rv', hq9, hv, hb, hk, hF⟩, st⟩ | ⟨q, st₀, t, T', L, E, ce, h0, X', hL, e1, e2, ⟨e9, hq9, -⟩, -⟩
  · cases hq9
    cases hv
    obtain ⟨t2, a1, b1⟩ := kk T'.heap (locs ++ L) hk (by rw [e1]; exact hb) (fun q h => h2 q (by rw [← hk.1]; exact h)) (f_keep h0 e1 h2 hS hA hL hF) T' rfl X'
    exact ⟨t2, st t2 a1, b1⟩
  · cases hq9
theorem f_afterT (hr : vx_Run p l e R s m args below meth c H locs cells slots mc ms (F0 m pc ls st0) rest (fQX D cy (.inr ex) w w1 (fdom w H.size) a) (fXC D cy (.inr ex) w w1 (fdom w H.size)) (fdom w H.size)) (h2 : ∀ q, w.1 q ≠ 0 → A q) (hS : va_S A s.heap H locs) (hA : ∀ q, s.heap.size ≤ q → A q)
    (kk : ∀ (ce : Cell) (q9 : Addr) (H1 : Heap) (locs1 : List Loc), fSm w1 w → FH D cy w1 H1 → (∀ q, w1.1 q ≠ 0 → A q) → va_S A s.heap H1 locs1 → H1[q9]? = some ce → ce.vm = .none → s.vm.findClass (exN ex) = some ce.cls → vx_W p l e R s m args below meth c H1 locs1 (cells + mc) (slots + ms) Q (F0 m pc ls rest) q9) : W p l e R s m args below meth c H locs cells slots Q (F0 m pc ls st0) := by
  intro T hT X
  rcases hr T hT X with ⟨v, st₀, t, T', L, h0, X', hL, e1, e2, ⟨rv', hq9, -⟩, st⟩ | ⟨q, st₀, t, T', L, E, ce, h0, X', hL, e1, e2, ⟨e9, hq9, hE9, hb, hk, hF⟩, hce, hcv, hcl, st⟩
  · cases hq9
  · cases hq9
    subst hE9
    obtain ⟨t2, a1, b1⟩ := kk ce q T'.heap (locs ++ L) hk (by rw [e1]; exact hb) (fun q h => h2 q (by rw [← hk.1]; exact h)) (f_keep h0 e1 h2 hS hA hL hF) (by rw [e1]; exact hce) hcv hcl T' rfl X'
    exact ⟨t2, st.trans a1, b1⟩
end FAX
section FCALLX
variable {X : FX} {cc : ByteArray} {nL : Nat} {own : String} {rm : Room} {l : Launch} {D : va_G} {cy : Nat → ClassId} {cells slots pc : Nat} {w w1 : FW} {L : List (Nat × Value)} {st stk : List Value}
variable {y : MethodName} {bytes : ByteArray} {maxL : Nat} {ret : Option FieldType} {rm1 : Room} {rv : Option Value} {b ci N i ex : Nat} {T : u_T} {host : String}
theorem f_callVR (hC : fOK X cc nL own rm l D cy) (As : List Value) (hst : l.stackTraces = false) (hM : fSpecX l D cy y bytes maxL ret rm1 (.ref b :: As) w w1 (.inl rv)) (hcode : Cond.code y bytes maxL ret ∈ lwA) (hini : Cond.initialized y.cls ∈ lwA) (hlink : Cond.methodLink own i y ∈ lwA) (hinst : Cond.instanceMethod y ∈ lwA) (hsel : Cond.selects y.cls y y ∈ lwA) (hd9 : y.cls ≠ "java/lang/invoke/MethodHandle" ∧ y.cls ≠ "java/lang/invoke/VarHandle" ∧ (parseMethodDescriptor y.desc).map (fun d => d.parameters.length) = some As.length) (hcl : fCl[ci]? = some (y.cls, T, N)) (hk : w.1 b = ci + 1) (hR : rm1.frames + 1 ≤ rm.frames ∧ 8 + (maxL + 11) + rm1.locals ≤ rm.locals) (hcs : cells + rm1.cells ≤ rm.cells ∧ slots + rm1.slots ≤ rm.slots) (hcat : (st.map fun v => v.category).sum ≤ 8) (hstk : stk = As.reverse ++ .ref b :: st) (hd : decode cc pc = .ok (.invokevirtual i, 3)) (k : fSm w1 w → fAt X (cells + rm1.cells) (slots + rm1.slots) nL w1 L (rv.toList ++ st) (pc + 3)) : fAt X cells slots nL w L stk pc := by
  obtain ⟨p, l', e, R, s, m, args, below, meth, c, Q, D', cy', A⟩ := X
  obtain ⟨hx, hb, hml, hown, hts, hE, hA, rfl, rfl, rfl, rfl⟩ := hC
  intro H locs ls h1 h2 h3 h4
  subst hstk
  obtain ⟨cell, q1, q2, q3, q4⟩ := h1.ob hk (fN_ok hcl).2
  have hcls := (hE.1.1 ci _ hcl).2.1
  refine f_afterR (vx_runV (As := As) (rest := st) (C := y.cls) ⟨hx, hb, hml, hown, hts⟩ (hM hst H.size) ⟨callB_of As.length hts (gA0 hcode) rfl rfl rfl (hts _ hini) (hts _ hlink) hd9 hR, hts _ hinst, hts _ hsel⟩ ⟨fPc_blind, ⟨cell, q1, by rw [q3]; rfl, by rw [q2]; exact hcls⟩, fun U hU hW => fPc_at hE h1 h2 h3 hA hU hW⟩ rfl rfl h4.1 rfl (lv_room hcat) hd hcs) h2 h3 hA (fun H1 locs1 g0 g1 g2 g3 => k g0 H1 locs1 ls g1 g2 g3 h4)
theorem f_callSR (hC : fOK X cc nL own rm l D cy) (As : List Value) (hst : l.stackTraces = false) (hM : fSpecX l D cy y bytes maxL ret rm1 As w w1 (.inl rv)) (hcode : Cond.code y bytes maxL ret ∈ lwA) (hini : Cond.initialized y.cls ∈ lwA) (hlink : Cond.methodLink own i y ∈ lwA) (hsta : Cond.static y ∈ lwA) (hd9 : y.cls ≠ "java/lang/invoke/MethodHandle" ∧ y.cls ≠ "java/lang/invoke/VarHandle" ∧ (parseMethodDescriptor y.desc).map (fun d => d.parameters.length) = some As.length) (hR : rm1.frames + 1 ≤ rm.frames ∧ 8 + (maxL + 11) + rm1.locals ≤ rm.locals) (hcs : cells + rm1.cells ≤ rm.cells ∧ slots + rm1.slots ≤ rm.slots) (hcat : (st.map fun v => v.category).sum ≤ 8) (hstk : stk = As.reverse ++ st) (hd : decode cc pc = .ok (.invokestatic i, 3)) (k : fSm w1 w → fAt X (cells + rm1.cells) (slots + rm1.slots) nL w1 L (rv.toList ++ st) (pc + 3)) : fAt X cells slots nL w L stk pc := by
  obtain ⟨p, l', e, R, s, m, args, below, meth, c, Q, D', cy', A⟩ := X
  obtain ⟨hx, hb, hml, hown, hts, hE, hA, rfl, rfl, rfl, rfl⟩ := hC
  intro H locs ls h1 h2 h3 h4
  subst hstk
  refine f_afterR (vx_runS (As := As) (rest := st) ⟨hx, hb, hml, hown, hts⟩ (hM hst H.size) ⟨callB_of As.length hts (gA0 hcode) rfl rfl rfl (hts _ hini) (hts _ hlink) hd9 hR, hts _ hsta⟩ ⟨fPc_blind, fun U hU hW => fPc_at hE h1 h2 h3 hA hU hW⟩ rfl rfl h4.1 rfl (lv_room hcat) hd hcs) h2 h3 hA (fun H1 locs1 g0 g1 g2 g3 => k g0 H1 locs1 ls g1 g2 g3 h4)
theorem f_callVT (hC : fOK X cc nL own rm l D cy) (As : List Value) {ret9 : Option FieldType} {w0 : FW} {mc ms : Nat} (hEn : fEndX X ret9 (.inr ex) w0 w1 mc ms) (hs : fSm w w0) (hc9 : cells + rm1.cells ≤ mc) (hs9 : slots + rm1.slots ≤ ms) (hM : fSpecX l D cy y bytes maxL ret rm1 (.ref b :: As) w w1 (.inr ex)) (hcode : Cond.code y bytes maxL ret ∈ lwA) (hini : Cond.initialized y.cls ∈ lwA) (hlink : Cond.methodLink own i y ∈ lwA) (hinst : Cond.instanceMethod y ∈ lwA) (hsel : Cond.selects y.cls y y ∈ lwA) (hd9 : y.cls ≠ "java/lang/invoke/MethodHandle" ∧ y.cls ≠ "java/lang/invoke/VarHandle" ∧ (parseMethodDescriptor y.desc).map (fun d => d.parameters.length) = some As.length) (hcl : fCl[ci]? = some (y.cls, T, N)) (hk : w.1 b = ci + 1) (hR : rm1.frames + 1 ≤ rm.frames ∧ 8 + (maxL + 11) + rm1.locals ≤ rm.locals) (hcs : cells + rm1.cells ≤ rm.cells ∧ slots + rm1.slots ≤ rm.slots) (hcat : (st.map fun v => v.category).sum ≤ 8) (hstk : stk = As.reverse ++ .ref b :: st) (hd : decode cc pc = .ok (.invokevirtual i, 3)) : fAt X cells slots nL w L stk pc := by
  obtain ⟨p, l', e, R, s, m, args, below, meth, c, Q, D', cy', A⟩ := X
  obtain ⟨hx, hb, hml, hown, hts, hE, hA, rfl, rfl, rfl, rfl⟩ := hC
  intro H locs ls h1 h2 h3 h4
  subst hstk
  obtain ⟨r1, r2, r3, hst, rfl⟩ := hEn
  obtain ⟨cell, q1, q2, q3, q4⟩ := h1.ob hk (fN_ok hcl).2
  have hcls := (hE.1.1 ci _ hcl).2.1
  refine f_afterT (vx_runV (As := As) (rest := st) (C := y.cls) ⟨hx, hb, hml, hown, hts⟩ (hM hst H.size) ⟨callB_of As.length hts (gA0 hcode) rfl rfl rfl (hts _ hini) (hts _ hlink) hd9 hR, hts _ hinst, hts _ hsel⟩ ⟨fPc_blind, ⟨cell, q1, by rw [q3]; rfl, by rw [q2]; exact hcls⟩, fun U hU hW => fPc_at hE h1 h2 h3 hA hU hW⟩ rfl rfl h4.1 rfl (lv_room hcat) hd hcs) h2 h3 hA (fun ce q9 H1 locs1 g0 g1 g2 g3 g4 g5 g6 => vx_out (fun x hx => (r3 x hx).elim) r2 g4 g5 g6 (fun t ht hal => ⟨_, rfl, rfl, by rw [ht]; exact g1, g0.tr hs, g3.F ht⟩) g3.2.2 hc9 hs9)
theorem f_callST (hC : fOK X cc nL own rm l D cy) (As : List Value) {ret9 : Option FieldType} {w0 : FW} {mc ms : Nat} (hEn : fEndX X ret9 (.inr ex) w0 w1 mc ms) (hs : fSm w w0) (hc9 : cells + rm1.cells ≤ mc) (hs9 : slots + rm1.slots ≤ ms) (hM : fSpecX l D cy y bytes maxL ret rm1 As w w1 (.inr ex)) (hcode : Cond.code y bytes maxL ret ∈ lwA) (hini : Cond.initialized y.cls ∈ lwA) (hlink : Cond.methodLink own i y ∈ lwA) (hsta : Cond.static y ∈ lwA) (hd9 : y.cls ≠ "java/lang/invoke/MethodHandle" ∧ y.cls ≠ "java/lang/invoke/VarHandle" ∧ (parseMethodDescriptor y.desc).map (fun d => d.parameters.length) = some As.length) (hR : rm1.frames + 1 ≤ rm.frames ∧ 8 + (maxL + 11) + rm1.locals ≤ rm.locals) (hcs : cells + rm1.cells ≤ rm.cells ∧ slots + rm1.slots ≤ rm.slots) (hcat : (st.map fun v => v.category).sum ≤ 8) (hstk : stk = As.reverse ++ st) (hd : decode cc pc = .ok (.invokestatic i, 3)) : fAt X cells slots nL w L stk pc := by
  obtain ⟨p, l', e, R, s, m, args, below, meth, c, Q, D', cy', A⟩ := X
  obtain ⟨hx, hb, hml, hown, hts, hE, hA, rfl, rfl, rfl, rfl⟩ := hC
  intro H locs ls h1 h2 h3 h4
  subst hstk
  obtain ⟨r1, r2, r3, hst, rfl⟩ := hEn
  refine f_afterT (vx_runS (As := As) (rest := st) ⟨hx, hb, hml, hown, hts⟩ (hM hst H.size) ⟨callB_of As.length hts (gA0 hcode) rfl rfl rfl (hts _ hini) (hts _ hlink) hd9 hR, hts _ hsta⟩ ⟨fPc_blind, fun U hU hW => fPc_at hE h1 h2 h3 hA hU hW⟩ rfl rfl h4.1 rfl (lv_room hcat) hd hcs) h2 h3 hA (fun ce q9 H1 locs1 g0 g1 g2 g3 g4 g5 g6 => vx_out (fun x hx => (r3 x hx).elim) r2 g4 g5 g6 (fun t ht hal => ⟨_, rfl, rfl, by rw [ht]; exact g1, g0.tr hs, g3.F ht⟩) g3.2.2 hc9 hs9)
theorem f_callVRN (hC : fOK X cc nL own rm l D cy) (As : List Value) (hst : l.stackTraces = false) (hM : fSpecX l D cy y bytes maxL ret rm1 (.ref b :: As) w w1 (.inl rv)) (hcode : Cond.code y bytes maxL ret ∈ lwA) (hini : Cond.initialized y.cls ∈ lwA) (hlink : Cond.methodLinkNest own i y host ∈ lwN) (hinst : Cond.instanceMethod y ∈ lwA) (hsel : Cond.selects y.cls y y ∈ lwA) (hd9 : y.cls ≠ "java/lang/invoke/MethodHandle" ∧ y.cls ≠ "java/lang/invoke/VarHandle" ∧ (parseMethodDescriptor y.desc).map (fun d => d.parameters.length) = some As.length) (hcl : fCl[ci]? = some (y.cls, T, N)) (hk : w.1 b = ci + 1) (hR : rm1.frames + 1 ≤ rm.frames ∧ 8 + (maxL + 11) + rm1.locals ≤ rm.locals) (hcs : cells + rm1.cells ≤ rm.cells ∧ slots + rm1.slots ≤ rm.slots) (hcat : (st.map fun v => v.category).sum ≤ 8) (hstk : stk = As.reverse ++ .ref b :: st) (hd : decode cc pc = .ok (.invokevirtual i, 3)) (k : fSm w1 w → fAt X (cells + rm1.cells) (slots + rm1.slots) nL w1 L (rv.toList ++ st) (pc + 3)) : fAt X cells slots nL w L stk pc := by
  obtain ⟨p, l', e, R, s, m, args, below, meth, c, Q, D', cy', A⟩ := X
  obtain ⟨hx, hb, hml, hown, hts, hE, hA, rfl, rfl, rfl, rfl⟩ := hC
  intro H locs ls h1 h2 h3 h4
  subst hstk
  obtain ⟨cell, q1, q2, q3, q4⟩ := h1.ob hk (fN_ok hcl).2
  have hcls := (hE.1.1 ci _ hcl).2.1
  refine f_afterR (vx_runVN (As := As) (rest := st) (C := y.cls) ⟨hx, hb, hml, hown, hts⟩ (hM hst H.size) ⟨va_cnB As.length hts (gA0 hcode) rfl rfl rfl (hE.2.1 _ hlink) (hts _ hini) hd9 hR, hts _ hinst, hts _ hsel⟩ ⟨fPc_blind, ⟨cell, q1, by rw [q3]; rfl, by rw [q2]; exact hcls⟩, fun U hU hW => fPc_at hE h1 h2 h3 hA hU hW⟩ rfl rfl h4.1 rfl (lv_room hcat) hd hcs) h2 h3 hA (fun H1 locs1 g0 g1 g2 g3 => k g0 H1 locs1 ls g1 g2 g3 h4)
theorem f_callSRN (hC : fOK X cc nL own rm l D cy) (As : List Value) (hst : l.stackTraces = false) (hM : fSpecX l D cy y bytes maxL ret rm1 As w w1 (.inl rv)) (hcode : Cond.code y bytes maxL ret ∈ lwA) (hini : Cond.initialized y.cls ∈ lwA) (hlink : Cond.methodLinkNest own i y host ∈ lwN) (hsta : Cond.static y ∈ lwA) (hd9 : y.cls ≠ "java/lang/invoke/MethodHandle" ∧ y.cls ≠ "java/lang/invoke/VarHandle" ∧ (parseMethodDescriptor y.desc).map (fun d => d.parameters.length) = some As.length) (hR : rm1.frames + 1 ≤ rm.frames ∧ 8 + (maxL + 11) + rm1.locals ≤ rm.locals) (hcs : cells + rm1.cells ≤ rm.cells ∧ slots + rm1.slots ≤ rm.slots) (hcat : (st.map fun v => v.category).sum ≤ 8) (hstk : stk = As.reverse ++ st) (hd : decode cc pc = .ok (.invokestatic i, 3)) (k : fSm w1 w → fAt X (cells + rm1.cells) (slots + rm1.slots) nL w1 L (rv.toList ++ st) (pc + 3)) : fAt X cells slots nL w L stk pc := by
  obtain ⟨p, l', e, R, s, m, args, below, meth, c, Q, D', cy', A⟩ := X
  obtain ⟨hx, hb, hml, hown, hts, hE, hA, rfl, rfl, rfl, rfl⟩ := hC
  intro H locs ls h1 h2 h3 h4
  subst hstk
  refine f_afterR (vx_runSN (As := As) (rest := st) ⟨hx, hb, hml, hown, hts⟩ (hM hst H.size) ⟨va_cnB As.length hts (gA0 hcode) rfl rfl rfl (hE.2.1 _ hlink) (hts _ hini) hd9 hR, hts _ hsta, trivial⟩ ⟨fPc_blind, fun U hU hW => fPc_at hE h1 h2 h3 hA hU hW⟩ rfl rfl h4.1 rfl (lv_room hcat) hd hcs) h2 h3 hA (fun H1 locs1 g0 g1 g2 g3 => k g0 H1 locs1 ls g1 g2 g3 h4)
theorem f_callVTN (hC : fOK X cc nL own rm l D cy) (As : List Value) {ret9 : Option FieldType} {w0 : FW} {mc ms : Nat} (hEn : fEndX X ret9 (.inr ex) w0 w1 mc ms) (hs : fSm w w0) (hc9 : cells + rm1.cells ≤ mc) (hs9 : slots + rm1.slots ≤ ms) (hM : fSpecX l D cy y bytes maxL ret rm1 (.ref b :: As) w w1 (.inr ex)) (hcode : Cond.code y bytes maxL ret ∈ lwA) (hini : Cond.initialized y.cls ∈ lwA) (hlink : Cond.methodLinkNest own i y host ∈ lwN) (hinst : Cond.instanceMethod y ∈ lwA) (hsel : Cond.selects y.cls y y ∈ lwA) (hd9 : y.cls ≠ "java/lang/invoke/MethodHandle" ∧ y.cls ≠ "java/lang/invoke/VarHandle" ∧ (parseMethodDescriptor y.desc).map (fun d => d.parameters.length) = some As.length) (hcl : fCl[ci]? = some (y.cls, T, N)) (hk : w.1 b = ci + 1) (hR : rm1.frames + 1 ≤ rm.frames ∧ 8 + (maxL + 11) + rm1.locals ≤ rm.locals) (hcs : cells + rm1.cells ≤ rm.cells ∧ slots + rm1.slots ≤ rm.slots) (hcat : (st.map fun v => v.category).sum ≤ 8) (hstk : stk = As.reverse ++ .ref b :: st) (hd : decode cc pc = .ok (.invokevirtual i, 3)) : fAt X cells slots nL w L stk pc := by
  obtain ⟨p, l', e, R, s, m, args, below, meth, c, Q, D', cy', A⟩ := X
  obtain ⟨hx, hb, hml, hown, hts, hE, hA, rfl, rfl, rfl, rfl⟩ := hC
  intro H locs ls h1 h2 h3 h4
  subst hstk
  obtain ⟨r1, r2, r3, hst, rfl⟩ := hEn
  obtain ⟨cell, q1, q2, q3, q4⟩ := h1.ob hk (fN_ok hcl).2
  have hcls := (hE.1.1 ci _ hcl).2.1
  refine f_afterT (vx_runVN (As := As) (rest := st) (C := y.cls) ⟨hx, hb, hml, hown, hts⟩ (hM hst H.size) ⟨va_cnB As.length hts (gA0 hcode) rfl rfl rfl (hE.2.1 _ hlink) (hts _ hini) hd9 hR, hts _ hinst, hts _ hsel⟩ ⟨fPc_blind, ⟨cell, q1, by rw [q3]; rfl, by rw [q2]; exact hcls⟩, fun U hU hW => fPc_at hE h1 h2 h3 hA hU hW⟩ rfl rfl h4.1 rfl (lv_room hcat) hd hcs) h2 h3 hA (fun ce q9 H1 locs1 g0 g1 g2 g3 g4 g5 g6 => vx_out (fun x hx => (r3 x hx).elim) r2 g4 g5 g6 (fun t ht hal => ⟨_, rfl, rfl, by rw [ht]; exact g1, g0.tr hs, g3.F ht⟩) g3.2.2 hc9 hs9)
theorem f_callSTN (hC : fOK X cc nL own rm l D cy) (As : List Value) {ret9 : Option FieldType} {w0 : FW} {mc ms : Nat} (hEn : fEndX X ret9 (.inr ex) w0 w1 mc ms) (hs : fSm w w0) (hc9 : cells + rm1.cells ≤ mc) (hs9 : slots + rm1.slots ≤ ms) (hM : fSpecX l D cy y bytes maxL ret rm1 As w w1 (.inr ex)) (hcode : Cond.code y bytes maxL ret ∈ lwA) (hini : Cond.initialized y.cls ∈ lwA) (hlink : Cond.methodLinkNest own i y host ∈ lwN) (hsta : Cond.static y ∈ lwA) (hd9 : y.cls ≠ "java/lang/invoke/MethodHandle" ∧ y.cls ≠ "java/lang/invoke/VarHandle" ∧ (parseMethodDescriptor y.desc).map (fun d => d.parameters.length) = some As.length) (hR : rm1.frames + 1 ≤ rm.frames ∧ 8 + (maxL + 11) + rm1.locals ≤ rm.locals) (hcs : cells + rm1.cells ≤ rm.cells ∧ slots + rm1.slots ≤ rm.slots) (hcat : (st.map fun v => v.category).sum ≤ 8) (hstk : stk = As.reverse ++ st) (hd : decode cc pc = .ok (.invokestatic i, 3)) : fAt X cells slots nL w L stk pc := by
  obtain ⟨p, l', e, R, s, m, args, below, meth, c, Q, D', cy', A⟩ := X
  obtain ⟨hx, hb, hml, hown, hts, hE, hA, rfl, rfl, rfl, rfl⟩ := hC
  intro H locs ls h1 h2 h3 h4
  subst hstk
  obtain ⟨r1, r2, r3, hst, rfl⟩ := hEn
  refine f_afterT (vx_runSN (As := As) (rest := st) ⟨hx, hb, hml, hown, hts⟩ (hM hst H.size) ⟨va_cnB As.length hts (gA0 hcode) rfl rfl rfl (hE.2.1 _ hlink) (hts _ hini) hd9 hR, hts _ hsta, trivial⟩ ⟨fPc_blind, fun U hU hW => fPc_at hE h1 h2 h3 hA hU hW⟩ rfl rfl h4.1 rfl (lv_room hcat) hd hcs) h2 h3 hA (fun ce q9 H1 locs1 g0 g1 g2 g3 g4 g5 g6 => vx_out (fun x hx => (r3 x hx).elim) r2 g4 g5 g6 (fun t ht hal => ⟨_, rfl, rfl, by rw [ht]; exact g1, g0.tr hs, g3.F ht⟩) g3.2.2 hc9 hs9)
end FCALLX
