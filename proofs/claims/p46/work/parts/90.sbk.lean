/-! Texts: a judgement for methods that work on pinned cells beside a text that is only read -/
/-- a text: its object, its bytes, its letters -/
abbrev sTx : Type := Option (Nat × Nat × List Int32)
def tV (q v : Nat) (t : List Int32) (A : Nat → Prop) (U : State) (H : Heap) : Prop := va_O "java/lang/String" q A U H ∧ va_OF "java/lang/String" "coder" "B" (.int 0) q A U H ∧ va_OF "java/lang/String" "value" "[B" (.ref v) q A U H ∧ va_T .byte v t.length (fun j => .int (t.getD j 0)) A U H
theorem tV.moved {q v : Nat} {t : List Int32} {A : Nat → Prop} {u U : State} {H : Heap} (hvm : u.vm.Alike U.vm) (h : tV q v t A u H) : tV q v t A U H := ⟨h.1.moved hvm, h.2.1.moved hvm, h.2.2.1.moved hvm, h.2.2.2.moved hvm⟩
theorem tV.kept {q v : Nat} {t : List Int32} {A : Nat → Prop} {U : State} {H H1 : Heap} (h : tV q v t A U H) (hq : ∀ a : Nat, a < H.size → ¬ A a → H1[a]? = H[a]?) : tV q v t A U H1 := ⟨h.1.kept hq, h.2.1.kept hq, h.2.2.1.kept hq, h.2.2.2.kept hq⟩
theorem tV.narrow {q v : Nat} {t : List Int32} {A B : Nat → Prop} {U : State} {H : Heap} (h : tV q v t A U H) (hAB : ∀ a, B a → A a) : tV q v t B U H := ⟨h.1.narrow hAB, h.2.1.narrow hAB, h.2.2.1.narrow hAB, h.2.2.2.narrow hAB⟩
def tVo (sv : sTx) (A : Nat → Prop) (U : State) (H : Heap) : Prop := ∀ z, sv = some z → tV z.1 z.2.1 z.2.2 A U H
def sdom (w : FW) (sz : Nat) (E : gE) : Nat → Prop := fun q => w.1 q ≠ 0 ∨ sz ≤ q ∨ E q ≠ none
def sPc (D : va_G) (cy : Nat → ClassId) (As : List Value) (w : FW) (sz : Nat) (E : gE) (sv : sTx) : Array Value → State → Prop := va_Pc As (fun U => U.heap.size = sz ∧ FH D cy w U.heap ∧ fEnv D cy (sdom w sz E) U ∧ (∀ a x, E a = some x → w.1 a = 0 ∧ a < sz ∧ gHas D a U.heap x) ∧ tVo sv (sdom w sz E) U U.heap)
def sQ (D : va_G) (cy : Nat → ClassId) (rv : Option Value) (w : FW) (sz' : Nat) (E' : gE) (A : Nat → Prop) : Array Value → State → Outcome → State → Prop := fun _ st oc t => oc = .returned rv ∧ FH D cy w t.heap ∧ t.heap.size = sz' ∧ (∀ a x, E' a = some x → w.1 a = 0 ∧ A a ∧ a < sz' ∧ gHas D a t.heap x) ∧ va_F A st t
def sSpec (l : Launch) (D : va_G) (cy : Nat → ClassId) (y : MethodName) (cc : ByteArray) (nL : Nat) (ret : Option FieldType) (rm : Room) (As : List Value) (w : FW) (sz : Nat) (E : gE) (sv : sTx) (rv : Option Value) (sz' : Nat) (E' : gE) : Prop :=
  Met l y (.code y cc nL ret :: lwA) rm (sPc D cy As w sz E sv) (sQ D cy rv w sz' E' (sdom w sz E)) rm.cells rm.slots (sdom w sz E)
def sOK (X : FX) (sv : sTx) : Prop := match X with
  | (p, l, e, R, s, m, args, below, meth, c, Q, D, cy, A) => tVo sv A s s.heap
def sEnd (X : FX) (ret : Option FieldType) (rv : Option Value) (w : FW) (sz' : Nat) (E' : gE) (mc ms : Nat) : Prop := match X with
  | (p, l, e, R, s, m, args, below, meth, c, Q, D, cy, A) => meth.sig.returnType = ret ∧ meth.locks = false ∧ Q = MQ below (sQ D cy rv w sz' E' A) args s mc ms A
theorem s_begin {l : Launch} {D : va_G} {cy : Nat → ClassId} {y : MethodName} {cc : ByteArray} {nL : Nat} {ret : Option FieldType} {rm : Room} {As : List Value} {w : FW} {sz : Nat} {E : gE} {sv : sTx} {rv : Option Value} {sz' : Nat} {E' : gE} (hy : plainFor y = true) (hn : (lg_sl As).length ≤ nL)
    (body : ∀ X : FX, fOK X cc nL y.cls rm l D cy → (y.name = "<init>" → gNm X) → sEnd X ret rv w sz' E' rm.cells rm.slots → sOK X sv → gAt X 0 0 nL w sz E (lv_args 0 As) [] 0) : sSpec l D cy y cc nL ret rm As w sz E sv rv sz' E' := by
  refine Met.ofWF (cc := cc) (maxL := nL) (ret := ret) hy rfl ?_
  intro p e s m args below meth c s₁ B hml hv
  obtain ⟨rfl, hsz, hP, hE, hR, hT⟩ := hv
  subst hsz
  have hts := atoms_spec (ws := .code y cc nL ret :: lwA) B.pre
  have hl := lv_entry As hn
  rw [lg_entry_eq]
  exact body (p, l, e, rm, s, m, As.toArray, below, meth, c, _, D, cy, sdom w s.heap.size E) ⟨B.exec, B.bytes, hml, findClass_of_methodNamed B.named, fun w hw => hts w (List.mem_cons_of_mem _ hw), hE, fun q h => Or.inr (Or.inl h), rfl, rfl, rfl, rfl⟩ (fun hi => (name_of_methodNamed B.named B.method).1.trans hi) ⟨B.returns, B.notSynchronized, rfl⟩ hT s.heap [] _ ⟨rfl, fun a x hx => ⟨(hR a x hx).1, Or.inr (Or.inr (by rw [hx]; exact fun h => nomatch h)), (hR a x hx).2.1, (hR a x hx).2.2⟩⟩ hP (fun q h => Or.inl h) va_S.rf hl
theorem sPc_blind {D : va_G} {cy : Nat → ClassId} {As : List Value} {w : FW} {sz : Nat} {E : gE} {sv : sTx} : FrameBlind (sPc D cy As w sz E sv) := by
  intro a U g mk q
  obtain ⟨q0, q1, q2, q3, q4, q5⟩ := q
  exact ⟨q0, q1, q2, q3.blind g mk a, q4, fun z hz => (q5 z hz).moved (u := U) (U := U.calling g mk a) (Vm.Alike.refl U.vm)⟩
/-- the text that a callee is given holds where the caller stands -/
def sVw (X : FX) (w : FW) (h : Nat) (E E1 : gE) (sv : sTx) : Prop := match X with
  | (p, l, e, R, s, m, args, below, meth, c, Q, D, cy, A) => ∀ (H : Heap) (locs : List Loc), gOn D w h E A H → (∀ q, w.1 q ≠ 0 → A q) → va_S A s.heap H locs → tVo sv (sdom w h E1) s H
def stV (v : Nat) : Nat → Value := fun k => match k with
  | 0 => .ref v
  | _ => .int 0
def bYt (cy : Nat → ClassId) (n : Nat) (t : List Int32) : Cell ⊕ (Nat × (Nat → Value)) := .inl (arrV (cy 6) n (fun j => .int (t.getD j 0)))
section SB
variable {X : FX} {cc : ByteArray} {nL : Nat} {own : String} {rm : Room} {l : Launch} {D : va_G} {cy : Nat → ClassId} {cells slots pc h : Nat} {w : FW} {E E1 : gE} {L : List (Nat × Value)} {st stk : List Value}
theorem sVw_none : sVw X w h E E1 none := by
  obtain ⟨p, l', e, R, s, m, args, below, meth, c, Q, D', cy', A⟩ := X
  intro H locs hz h2 h3 z hz9
  cases hz9
theorem sVw_ok (hC : fOK X cc nL own rm l D cy) {sv : sTx} (hS : sOK X sv) (hE1 : ∀ a, E1 a ≠ none → E a ≠ none) : sVw X w h E E1 sv := by
  obtain ⟨p, l', e, R, s, m, args, below, meth, c, Q, D', cy', A⟩ := X
  obtain ⟨hx, hb, hml, hown, hts, hE, hA, rfl, rfl, rfl, rfl⟩ := hC
  intro H locs hz h2 h3 z hz9
  refine ((hS z hz9).kept h3.2.1).narrow (fun q hq => ?_)
  rcases hq with hq | hq | hq
  · exact h2 q hq
  · exact hA q (Nat.le_trans h3.1 (Nat.le_trans (Nat.le_of_eq hz.1) hq))
  · cases hx9 : E q with
    | none => exact absurd hx9 (hE1 q hq)
    | some x => exact (hz.2 q x hx9).2.1
theorem sOK_c (hC : fOK X cc nL own rm l D cy) {i : Nat} (hi : i < 33) : sOK X (some (D.2 99 i, D.2 98 i, fByt.getD i [])) := by
  obtain ⟨p, l', e, R, s, m, args, below, meth, c, Q, D', cy', A⟩ := X
  obtain ⟨hx, hb, hml, hown, hts, hE, hA, rfl, rfl, rfl, rfl⟩ := hC
  intro z hz9
  cases hz9
  have h9 := hE.2.2.2.1 i (by omega)
  rw [fBy_l D' hi] at h9
  exact h9
theorem tV_pin {U : State} {H : Heap} {B : Nat → Prop} (hK : va_K D fCl (ftys cy) U) (hOF : va_OF "java/lang/String" "coder" "B" (.int 0) (D.2 99 0) B U H ∧ va_OF "java/lang/String" "value" "[B" (.ref (D.2 98 0)) (D.2 99 0) B U H) {q v : Nat} {t : List Int32} (hq : gHas D q H (.inr (6, stV v))) (hv : gHas D v H (bYt cy t.length t)) (n1 : ¬ B q) (n2 : ¬ B v) : tV q v t B U H := by
  obtain ⟨cell, q1, q2, q3, q4⟩ := hq
  obtain ⟨hS, hfc, -⟩ := hK.1 6 _ rfl
  have fld : ∀ (j : Nat), j < 4 → ∀ (o n d : String) (x : Value) (t0 : Nat), (TJ0 j).1 = o → (TJ0 j).2.1 = n → (TJ0 j).2.2.1 = d → va_OF o n d x t0 B U H → va_OF o n d (stV v j) q B U H := by
    intro j hj o n d x t0 e1 e2 e3 hO
    obtain ⟨cf, k, i, f, cell0, o1, o2, -⟩ := hO
    obtain ⟨cf', kf', fi', f', hi, hsl⟩ := hS j hj
    have hi : U.fieldFound? (TJ0 j).1 (TJ0 j).2.1 (TJ0 j).2.2.1 = some (cf', kf', fi', f') := hi
    rw [e1, e2, e3] at hi
    have e9 := hi.symm.trans o1
    have ef : f' = f := by
      have := Option.some.inj e9
      simp only [Prod.mk.injEq] at this
      exact this.2.2.2
    subst ef
    exact ⟨cf', kf', fi', f', cell, hi, o2, q1, (by rw [q3]; exact (fun h => nomatch h)), (by rw [hsl]; exact q4 j hj), n1⟩
  refine ⟨⟨cell, q1, (by rw [q3]; rfl), (by rw [q2]; exact hfc), n1⟩, fld 1 (by decide) _ _ _ _ _ rfl rfl rfl hOF.1, fld 0 (by decide) _ _ _ _ _ rfl rfl rfl hOF.2, ⟨_, hv, (hK.2 6 _ rfl).1 _ _, (fun h => nomatch h), ?_, ?_, (fun j hj => arrV_read _ _ hj), n2⟩⟩
  · rw [arrV_size]
    exact Nat.le_refl _
  · rw [arrV_size]
theorem sVw_pin (hC : fOK X cc nL own rm l D cy) {q v : Nat} {t : List Int32} (hq : E q = some (.inr (6, stV v))) (hv : E v = some (bYt cy t.length t)) (n1 : E1 q = none) (n2 : E1 v = none) (hE1 : ∀ a, E1 a ≠ none → E a ≠ none) : sVw X w h E E1 (some (q, v, t)) := by
  have h0 := sOK_c hC (i := 0) (by decide)
  have h1 := sVw_ok (w := w) (h := h) hC h0 hE1
  obtain ⟨p, l', e, R, s, m, args, below, meth, c, Q, D', cy', A⟩ := X
  obtain ⟨hx, hb, hml, hown, hts, hE, hA, rfl, rfl, rfl, rfl⟩ := hC
  intro H locs hz h2 h3 z hz9
  cases hz9
  have h9 := h1 H locs hz h2 h3 _ rfl
  have gq := hz.2 q _ hq
  have gv := hz.2 v _ hv
  have hzz := hz.1
  refine tV_pin hE.1 ⟨h9.2.1, h9.2.2.1⟩ gq.2.2.2 gv.2.2.2 (fun g => ?_) (fun g => ?_)
  · rcases g with g | g | g
    · exact g gq.1
    · exact absurd gq.2.2.1 (by omega)
    · exact g n1
  · rcases g with g | g | g
    · exact g gv.1
    · exact absurd (Nat.lt_of_lt_of_le gv.2.2.1 (Nat.le_of_eq hzz)) (Nat.not_lt.mpr g)
    · exact g n2
/-- a text that is pinned among what is only read -/
theorem sOK_E0 (hC : fOK X cc nL own rm l D cy) {E0 : gE} {sc : lScr} (hL : lOK X E0 sc) {q v : Nat} {t : List Int32} (hq : E0 q = some (.inr (6, stV v))) (hv : E0 v = some (bYt cy t.length t)) : sOK X (some (q, v, t)) := by
  have h0 := sOK_c hC (i := 0) (by decide)
  obtain ⟨p, l', e, R, s, m, args, below, meth, c, Q, D', cy', A⟩ := X
  obtain ⟨hx, hb, hml, hown, hts, hE, hA, rfl, rfl, rfl, rfl⟩ := hC
  intro z hz9
  cases hz9
  have h9 := h0 _ rfl
  obtain ⟨a1, a2, a3⟩ := hL.2.2.1 q _ hq
  obtain ⟨b1, b2, b3⟩ := hL.2.2.1 v _ hv
  exact tV_pin hE.1 ⟨h9.2.1, h9.2.2.1⟩ a3 b3 a1 b1
end SB
section SC
variable {p : Program} {l : Launch} {e : Env} {R : Room} {s : State} {m : MethodId} {args : Array Value} {below : List Frame} {meth : Method} {c : Code} {H : Heap} {locs : List Loc} {cells slots mc ms : Nat} {Q : State → Prop} {D : va_G} {cy : Nat → ClassId} {w : FW} {A : Nat → Prop} {rv : Option Value} {rest st0 : List Value} {a : Array Value} {pc h : Nat} {ls : Array Slot} {E E1 E1' E2 : gE} {sz' : Nat} {As : List Value} {U : State} {sv : sTx}
theorem s_in (hz : gOn D w h E A H) (h2 : ∀ q, w.1 q ≠ 0 → A q) (hS : va_S A s.heap H locs) (hA : ∀ q, s.heap.size ≤ q → A q) (hE1 : ∀ a, E1 a ≠ none → E a ≠ none) : ∀ q, sdom w H.size E1 q → A q := fun q hq => hq.elim (h2 q) (fun z => z.elim (fun z => hA q (Nat.le_trans hS.1 z)) (fun z => by
    cases hx : E q with
    | none => exact absurd hx (hE1 q z)
    | some x => exact (hz.2 q x hx).2.1))
theorem s_sub {E E1 : gE} (hE1 : ∀ a x, E1 a = some x → E a = some x) : ∀ a, E1 a ≠ none → E a ≠ none := by
  intro a h
  cases hx : E1 a with
  | none => exact absurd hx h
  | some x =>
    rw [hE1 a x hx]
    exact fun h => nomatch h
theorem s_after (hr : va_Run p l e R s m args below meth c H locs cells slots mc ms (F0 m pc ls st0) rest (sQ D cy rv w sz' E1' (sdom w H.size E1) a) (sdom w H.size E1)) (hz : gOn D w h E A H) (h2 : ∀ q, w.1 q ≠ 0 → A q) (hS : va_S A s.heap H locs) (hA : ∀ q, s.heap.size ≤ q → A q) (hE1 : ∀ a x, E1 a = some x → E a = some x) (hE2 : ∀ a x, E2 a = some x → E1' a = some x ∨ (E1 a = none ∧ E a = some x))
    (kk : ∀ (H1 : Heap) (locs1 : List Loc), gOn D w sz' E2 A H1 → FH D cy w H1 → va_S A s.heap H1 locs1 → W p l e R s m args below meth c H1 locs1 (cells + mc) (slots + ms) Q (F0 m (pc + 3) ls (rv.toList ++ rest))) : W p l e R s m args below meth c H locs cells slots Q (F0 m pc ls st0) := by
  have hin := s_in hz h2 hS hA (s_sub hE1)
  intro T hT X
  obtain ⟨v, st₀, t, T', LL, h0, X', hL, e1, e2, ⟨hv, hb9, hsz, hP9, hz9, hq⟩, st9⟩ := hr T hT X
  cases hv
  rw [h0] at hz9 hq
  have hon : gOn D w sz' E2 A T'.heap := by
    refine ⟨by rw [e1]; exact hsz, fun a x hx => ?_⟩
    rcases hE2 a x hx with h | ⟨hn, h⟩
    · have g := hP9 a x h
      exact ⟨g.1, hin a g.2.1, by rw [e1, hsz]; exact g.2.2.1, by rw [e1]; exact g.2.2.2⟩
    · have g := hz.2 a x h
      have hlt := g.2.2.1
      exact ⟨g.1, g.2.1, by rw [e1]; exact Nat.lt_of_lt_of_le hlt hz9, by rw [e1]; exact g.2.2.2.kept (hq a hlt (fun z => z.elim (fun z => z g.1) (fun z => z.elim (fun z => absurd hlt (Nat.not_lt.mpr z)) (fun z => z hn))))⟩
  obtain ⟨t2, a1, b1⟩ := kk T'.heap (locs ++ LL) hon (by rw [e1]; exact hb9) ⟨Nat.le_trans hS.1 (by rw [e1]; exact hz9), fun q h5 h6 => by rw [e1, hq q (Nat.lt_of_lt_of_le h5 hS.1) (fun z => h6 (hin q z))]; exact hS.2.1 q h5 h6, fun q hq => by
      rcases List.mem_append.mp hq with h | h
      · exact hS.2.2 q h
      · exact hin _ (hL q h)⟩ T' rfl X'
  exact ⟨t2, st9 t2 a1, b1⟩
theorem sPc_at (hE : fEnv D cy A s) (h1 : FH D cy w H) (h2 : ∀ q, w.1 q ≠ 0 → A q) (hS : va_S A s.heap H locs) (hA : ∀ q, s.heap.size ≤ q → A q) (hz : gOn D w H.size E A H) (hE1 : ∀ a x, E1 a = some x → E a = some x) (hV : tVo sv (sdom w H.size E1) s H) (hU : U.heap = H) (hW : s.WarmedH U.vm) : sPc D cy As w H.size E1 sv As.toArray U :=
  ⟨rfl, by rw [hU], by rw [hU]; exact h1, hE.pass hW (locs := locs) (by rw [hU]; exact hS) (s_in hz h2 hS hA (s_sub hE1)), fun a x hx => ⟨(hz.2 a x (hE1 a x hx)).1, (hz.2 a x (hE1 a x hx)).2.2.1, by rw [hU]; exact (hz.2 a x (hE1 a x hx)).2.2.2⟩, fun z hz9 => by rw [hU]; exact (hV z hz9).moved hW.alike⟩
end SC
theorem k_selP {C : String} {y : MethodName} {s : State} {args : Array Value} {n : Nat} (hy : y.cls ≠ "java/lang/invoke/MethodHandle" ∧ y.cls ≠ "java/lang/invoke/VarHandle")
    (hins : (Cond.instantiable C n).before args s = true) (hpriv : (Cond.privateMethod y).before args s = true) (hinst : (Cond.instanceMethod y).before args s = true) (hcl : ∀ mk, s.methodNamed? y = some mk → ∃ k, s.vm.classes[mk.cls]? = some k ∧ k.isInterface = false) : (Cond.selects C y y).before args s = true := by
  obtain ⟨c, k, hc, hk, -, hniab, -, -⟩ := Cond.instantiable_spec hins
  obtain ⟨mk, methM, hnamed, hmethM, -, -⟩ := Cond.instanceMethod_spec hinst
  have hfound : s.methodFound? y.cls y.name y.desc = some mk := State.methodFound?_of_named hnamed hy
  have hsel : selectMethod {} s.vm c mk = .method mk := selectMethod_private hmethM (Cond.privateMethod_at hpriv mk methM hnamed hmethM)
  obtain ⟨k2, hk2, hni⟩ := hcl mk hnamed
  simp only [Cond.before, Cond.holds, Cond.value, hc, hfound, hnamed, hsel, hk2]
  simp; exact hni
section SD
variable {X : FX} {cc : ByteArray} {nL : Nat} {own : String} {rm : Room} {l : Launch} {D : va_G} {cy : Nat → ClassId} {cells slots pc h : Nat} {w : FW} {E E1 E1' E2 : gE} {L : List (Nat × Value)} {st stk : List Value} {sv : sTx} {sz' : Nat}
variable {y : MethodName} {bytes : ByteArray} {maxL : Nat} {ret : Option FieldType} {rm1 : Room} {rv : Option Value} {b i : Nat} {C : String}
/-- a virtual call: the receiver's cell is what hRec says -/
theorem s_callV (hC : fOK X cc nL own rm l D cy) (As : List Value) (hM : sSpec l D cy y bytes maxL ret rm1 (.ref b :: As) w h E1 sv rv sz' E1') (hV : sVw X w h E E1 sv) (hE1 : ∀ a x, E1 a = some x → E a = some x) (hE2 : ∀ a x, E2 a = some x → E1' a = some x ∨ (E1 a = none ∧ E a = some x))
    {ci N : Nat} {T : u_T} {V : Nat → Value} (hcl : fCl[ci]? = some (C, T, N)) (hk : E b = some (.inr (ci, V))) (hsel : Cond.selects C y y ∈ lwA)
    (hcode : Cond.code y bytes maxL ret ∈ lwA) (hini : Cond.initialized y.cls ∈ lwA) (hlink : Cond.methodLink own i y ∈ lwA) (hinst : Cond.instanceMethod y ∈ lwA) (hd9 : y.cls ≠ "java/lang/invoke/MethodHandle" ∧ y.cls ≠ "java/lang/invoke/VarHandle" ∧ (parseMethodDescriptor y.desc).map (fun d => d.parameters.length) = some As.length) (hR : rm1.frames + 1 ≤ rm.frames ∧ 8 + (maxL + 11) + rm1.locals ≤ rm.locals) (mc ms : Nat) (hmc : rm1.cells = mc) (hms : rm1.slots = ms) (hcs : cells + mc ≤ rm.cells ∧ slots + ms ≤ rm.slots) (hcat : (st.map fun v => v.category).sum ≤ 8) (hstk : stk = As.reverse ++ .ref b :: st) (hd : decode cc pc = .ok (.invokevirtual i, 3)) (k : gAt X (cells + mc) (slots + ms) nL w sz' E2 L (rv.toList ++ st) (pc + 3)) : gAt X cells slots nL w h E L stk pc := by
  obtain ⟨p, l', e, R, s, m, args, below, meth, c, Q, D', cy', A⟩ := X
  obtain ⟨hx, hb, hml, hown, hts, hE, hA, rfl, rfl, rfl, rfl⟩ := hC
  intro H locs ls hz h1 h2 h3 h4
  subst hstk
  subst hmc
  subst hms
  have hz1 := hz.1
  subst hz1
  obtain ⟨cell, q1, q2, q3, q4⟩ := (hz.2 b _ hk).2.2.2
  have hcls := (hE.1.1 ci _ hcl).2.1
  refine s_after (va_runV (As := As) (rest := st) (C := C) ⟨hx, hb, hml, hown, hts⟩ hM ⟨callB_of As.length hts (gA0 hcode) rfl rfl rfl (hts _ hini) (hts _ hlink) hd9 hR, hts _ hinst, hts _ hsel⟩ ⟨sPc_blind, ⟨cell, q1, by rw [q3]; rfl, by rw [q2]; exact hcls⟩, fun U hU hW => sPc_at hE h1 h2 h3 hA hz hE1 (hV H locs hz h2 h3) hU hW⟩ rfl rfl h4.1 rfl (lv_room hcat) hd hcs) hz h2 h3 hA hE1 hE2 (fun H1 locs1 g0 g1 g2 => k H1 locs1 ls g0 g1 h2 g2 h4)
/-- a private method of the class above -/
theorem s_callP (hC : fOK X cc nL own rm l D cy) (As : List Value) (hM : sSpec l D cy y bytes maxL ret rm1 (.ref b :: As) w h E1 sv rv sz' E1') (hV : sVw X w h E E1 sv) (hE1 : ∀ a x, E1 a = some x → E a = some x) (hE2 : ∀ a x, E2 a = some x → E1' a = some x ∨ (E1 a = none ∧ E a = some x))
    {ci N : Nat} {T : u_T} {V : Nat → Value} (hcl : fCl[ci]? = some (C, T, N)) (hk : E b = some (.inr (ci, V))) {y0 : MethodName} {n : Nat} (hins : Cond.instantiable C n ∈ lwA) (hpriv : Cond.privateMethod y ∈ lwN) (hsel0 : Cond.selects C y0 y0 ∈ lwA) (hy0 : y0.cls = y.cls)
    (hcode : Cond.code y bytes maxL ret ∈ lwA) (hini : Cond.initialized y.cls ∈ lwA) (hlink : Cond.methodLink own i y ∈ lwA) (hinst : Cond.instanceMethod y ∈ lwA) (hd9 : y.cls ≠ "java/lang/invoke/MethodHandle" ∧ y.cls ≠ "java/lang/invoke/VarHandle" ∧ (parseMethodDescriptor y.desc).map (fun d => d.parameters.length) = some As.length) (hR : rm1.frames + 1 ≤ rm.frames ∧ 8 + (maxL + 11) + rm1.locals ≤ rm.locals) (mc ms : Nat) (hmc : rm1.cells = mc) (hms : rm1.slots = ms) (hcs : cells + mc ≤ rm.cells ∧ slots + ms ≤ rm.slots) (hcat : (st.map fun v => v.category).sum ≤ 8) (hstk : stk = As.reverse ++ .ref b :: st) (hd : decode cc pc = .ok (.invokevirtual i, 3)) (k : gAt X (cells + mc) (slots + ms) nL w sz' E2 L (rv.toList ++ st) (pc + 3)) : gAt X cells slots nL w h E L stk pc := by
  obtain ⟨p, l', e, R, s, m, args, below, meth, c, Q, D', cy', A⟩ := X
  obtain ⟨hx, hb, hml, hown, hts, hE, hA, rfl, rfl, rfl, rfl⟩ := hC
  intro H locs ls hz h1 h2 h3 h4
  subst hstk
  subst hmc
  subst hms
  have hz1 := hz.1
  subst hz1
  obtain ⟨cell, q1, q2, q3, q4⟩ := (hz.2 b _ hk).2.2.2
  have hcls := (hE.1.1 ci _ hcl).2.1
  have hsel : (Cond.selects C y y).before args s = true := by
    refine k_selP ⟨hd9.1, hd9.2.1⟩ (hts _ hins) (va_Nw.use rfl (hE.2.1 _ hpriv)) (hts _ hinst) (fun mk hmk => ?_)
    obtain ⟨c0, r0, m0, s1, s2, s3, s4, k0, s5, s6⟩ := Cond.selects_spec (hts _ hsel0)
    have f1 := findClass_of_methodNamed s3
    have f2 := findClass_of_methodNamed hmk
    rw [hy0] at f1
    rw [← Option.some.inj (f1.symm.trans f2)]
    exact ⟨k0, s5, s6⟩
  refine s_after (va_runV (As := As) (rest := st) (C := C) ⟨hx, hb, hml, hown, hts⟩ hM ⟨callB_of As.length hts (gA0 hcode) rfl rfl rfl (hts _ hini) (hts _ hlink) hd9 hR, hts _ hinst, hsel⟩ ⟨sPc_blind, ⟨cell, q1, by rw [q3]; rfl, by rw [q2]; exact hcls⟩, fun U hU hW => sPc_at hE h1 h2 h3 hA hz hE1 (hV H locs hz h2 h3) hU hW⟩ rfl rfl h4.1 rfl (lv_room hcat) hd hcs) hz h2 h3 hA hE1 hE2 (fun H1 locs1 g0 g1 g2 => k H1 locs1 ls g0 g1 h2 g2 h4)
/-- a method of a text -/
theorem s_callT (hC : fOK X cc nL own rm l D cy) {v : Nat} {t : List Int32} (As : List Value) (hM : sSpec l D cy y bytes maxL ret rm1 (.ref b :: As) w h E1 (some (b, v, t)) rv sz' E1') (hV : sVw X w h E E1 (some (b, v, t))) (hE1 : ∀ a x, E1 a = some x → E a = some x) (hE2 : ∀ a x, E2 a = some x → E1' a = some x ∨ (E1 a = none ∧ E a = some x)) (hsel : Cond.selects "java/lang/String" y y ∈ lwA)
    (hcode : Cond.code y bytes maxL ret ∈ lwA) (hini : Cond.initialized y.cls ∈ lwA) (hlink : Cond.methodLink own i y ∈ lwA) (hinst : Cond.instanceMethod y ∈ lwA) (hd9 : y.cls ≠ "java/lang/invoke/MethodHandle" ∧ y.cls ≠ "java/lang/invoke/VarHandle" ∧ (parseMethodDescriptor y.desc).map (fun d => d.parameters.length) = some As.length) (hR : rm1.frames + 1 ≤ rm.frames ∧ 8 + (maxL + 11) + rm1.locals ≤ rm.locals) (mc ms : Nat) (hmc : rm1.cells = mc) (hms : rm1.slots = ms) (hcs : cells + mc ≤ rm.cells ∧ slots + ms ≤ rm.slots) (hcat : (st.map fun v => v.category).sum ≤ 8) (hstk : stk = As.reverse ++ .ref b :: st) (hd : decode cc pc = .ok (.invokevirtual i, 3)) (k : gAt X (cells + mc) (slots + ms) nL w sz' E2 L (rv.toList ++ st) (pc + 3)) : gAt X cells slots nL w h E L stk pc := by
  obtain ⟨p, l', e, R, s, m, args, below, meth, c, Q, D', cy', A⟩ := X
  obtain ⟨hx, hb, hml, hown, hts, hE, hA, rfl, rfl, rfl, rfl⟩ := hC
  intro H locs ls hz h1 h2 h3 h4
  subst hstk
  subst hmc
  subst hms
  have hz1 := hz.1
  subst hz1
  obtain ⟨cell, q1, q2, q3, q4⟩ := (hV H locs hz h2 h3 _ rfl).1
  refine s_after (va_runV (As := As) (rest := st) (C := "java/lang/String") ⟨hx, hb, hml, hown, hts⟩ hM ⟨callB_of As.length hts (gA0 hcode) rfl rfl rfl (hts _ hini) (hts _ hlink) hd9 hR, hts _ hinst, hts _ hsel⟩ ⟨sPc_blind, ⟨cell, q1, q2, q3⟩, fun U hU hW => sPc_at hE h1 h2 h3 hA hz hE1 (hV H locs hz h2 h3) hU hW⟩ rfl rfl h4.1 rfl (lv_room hcat) hd hcs) hz h2 h3 hA hE1 hE2 (fun H1 locs1 g0 g1 g2 => k H1 locs1 ls g0 g1 h2 g2 h4)
theorem s_callS (hC : fOK X cc nL own rm l D cy) (As : List Value) (hM : sSpec l D cy y bytes maxL ret rm1 As w h E1 sv rv sz' E1') (hV : sVw X w h E E1 sv) (hE1 : ∀ a x, E1 a = some x → E a = some x) (hE2 : ∀ a x, E2 a = some x → E1' a = some x ∨ (E1 a = none ∧ E a = some x))
    (hcode : Cond.code y bytes maxL ret ∈ lwA) (hini : Cond.initialized y.cls ∈ lwA) (hlink : Cond.methodLink own i y ∈ lwA) (hsta : Cond.static y ∈ lwA) (hd9 : y.cls ≠ "java/lang/invoke/MethodHandle" ∧ y.cls ≠ "java/lang/invoke/VarHandle" ∧ (parseMethodDescriptor y.desc).map (fun d => d.parameters.length) = some As.length) (hR : rm1.frames + 1 ≤ rm.frames ∧ 8 + (maxL + 11) + rm1.locals ≤ rm.locals) (mc ms : Nat) (hmc : rm1.cells = mc) (hms : rm1.slots = ms) (hcs : cells + mc ≤ rm.cells ∧ slots + ms ≤ rm.slots) (hcat : (st.map fun v => v.category).sum ≤ 8) (hstk : stk = As.reverse ++ st) (hd : decode cc pc = .ok (.invokestatic i, 3)) (k : gAt X (cells + mc) (slots + ms) nL w sz' E2 L (rv.toList ++ st) (pc + 3)) : gAt X cells slots nL w h E L stk pc := by
  obtain ⟨p, l', e, R, s, m, args, below, meth, c, Q, D', cy', A⟩ := X
  obtain ⟨hx, hb, hml, hown, hts, hE, hA, rfl, rfl, rfl, rfl⟩ := hC
  intro H locs ls hz h1 h2 h3 h4
  subst hstk
  subst hmc
  subst hms
  have hz1 := hz.1
  subst hz1
  refine s_after (va_runS (As := As) (rest := st) ⟨hx, hb, hml, hown, hts⟩ hM ⟨callB_of As.length hts (gA0 hcode) rfl rfl rfl (hts _ hini) (hts _ hlink) hd9 hR, hts _ hsta⟩ ⟨sPc_blind, fun U hU hW => sPc_at hE h1 h2 h3 hA hz hE1 (hV H locs hz h2 h3) hU hW⟩ rfl rfl h4.1 rfl (lv_room hcat) hd hcs) hz h2 h3 hA hE1 hE2 (fun H1 locs1 g0 g1 g2 => k H1 locs1 ls g0 g1 h2 g2 h4)
theorem s_callI (hC : fOK X cc nL own rm l D cy) (As : List Value) (hM : sSpec l D cy y bytes maxL none rm1 (.ref b :: As) w h E1 sv none sz' E1') (hV : sVw X w h E E1 sv) (hE1 : ∀ a x, E1 a = some x → E a = some x) (hE2 : ∀ a x, E2 a = some x → E1' a = some x ∨ (E1 a = none ∧ E a = some x)) (hyn : y.name = "<init>")
    (hcode : Cond.code y bytes maxL none ∈ lwA) (hini : Cond.initialized y.cls ∈ lwA) (hlink : Cond.methodLink own i y ∈ lwA) (hinst : Cond.instanceMethod y ∈ lwA) (hd9 : y.cls ≠ "java/lang/invoke/MethodHandle" ∧ y.cls ≠ "java/lang/invoke/VarHandle" ∧ (parseMethodDescriptor y.desc).map (fun d => d.parameters.length) = some As.length) (hR : rm1.frames + 1 ≤ rm.frames ∧ 8 + (maxL + 11) + rm1.locals ≤ rm.locals) (mc ms : Nat) (hmc : rm1.cells = mc) (hms : rm1.slots = ms) (hcs : cells + mc ≤ rm.cells ∧ slots + ms ≤ rm.slots) (hcat : (st.map fun v => v.category).sum ≤ 8) (hstk : stk = As.reverse ++ .ref b :: st) (hd : decode cc pc = .ok (.invokespecial i, 3)) (k : gAt X (cells + mc) (slots + ms) nL w sz' E2 L st (pc + 3)) : gAt X cells slots nL w h E L stk pc := by
  obtain ⟨p, l', e, R, s, m, args, below, meth, c, Q, D', cy', A⟩ := X
  obtain ⟨hx, hb, hml, hown, hts, hE, hA, rfl, rfl, rfl, rfl⟩ := hC
  intro H locs ls hz h1 h2 h3 h4
  subst hstk
  subst hmc
  subst hms
  have hz1 := hz.1
  subst hz1
  refine s_after (va_runI (As := As) (rest := st) ⟨hx, hb, hml, hown, hts⟩ hM ⟨callB_of As.length hts (gA0 hcode) rfl rfl rfl (hts _ hini) (hts _ hlink) hd9 hR, hyn, hts _ hinst⟩ ⟨sPc_blind, fun U hU hW => sPc_at hE h1 h2 h3 hA hz hE1 (hV H locs hz h2 h3) hU hW⟩ rfl rfl h4.1 rfl (lv_room hcat) hd hcs) hz h2 h3 hA hE1 hE2 (fun H1 locs1 g0 g1 g2 => k H1 locs1 ls g0 g1 h2 g2 h4)
/-- a method of the class above, by super -/
theorem s_callU (hC : fOK X cc nL own rm l D cy) (As : List Value) (hM : sSpec l D cy y bytes maxL ret rm1 (.ref b :: As) w h E1 sv rv sz' E1') (hV : sVw X w h E E1 sv) (hE1 : ∀ a x, E1 a = some x → E a = some x) (hE2 : ∀ a x, E2 a = some x → E1' a = some x ∨ (E1 a = none ∧ E a = some x))
    {ci N : Nat} {T : u_T} {V : Nat → Value} (hcl : fCl[ci]? = some (C, T, N)) (hk : E b = some (.inr (ci, V))) (hsame : Cond.sameMethod y.cls y.cls y.name y.desc ∈ lwA) (hsup : Cond.superclass own y.cls ∈ lwA)
    (hcode : Cond.code y bytes maxL ret ∈ lwA) (hini : Cond.initialized y.cls ∈ lwA) (hlink : Cond.methodLink own i y ∈ lwA) (hinst : Cond.instanceMethod y ∈ lwA) (hd9 : y.name ≠ "<init>" ∧ (parseMethodDescriptor y.desc).map (fun d => d.parameters.length) = some As.length) (hR : rm1.frames + 1 ≤ rm.frames ∧ 8 + (maxL + 11) + rm1.locals ≤ rm.locals) (mc ms : Nat) (hmc : rm1.cells = mc) (hms : rm1.slots = ms) (hcs : cells + mc ≤ rm.cells ∧ slots + ms ≤ rm.slots) (hcat : (st.map fun v => v.category).sum ≤ 8) (hstk : stk = As.reverse ++ .ref b :: st) (hd : decode cc pc = .ok (.invokespecial i, 3)) (k : gAt X (cells + mc) (slots + ms) nL w sz' E2 L (rv.toList ++ st) (pc + 3)) : gAt X cells slots nL w h E L stk pc := by
  obtain ⟨p, l', e, R, s, m, args, below, meth, c, Q, D', cy', A⟩ := X
  obtain ⟨hx, hb, hml, hown, hts, hE, hA, rfl, rfl, rfl, rfl⟩ := hC
  intro H locs ls hz h1 h2 h3 h4
  subst hstk
  subst hmc
  subst hms
  have hz1 := hz.1
  subst hz1
  obtain ⟨cell, q1, q2, q3, q4⟩ := (hz.2 b _ hk).2.2.2
  have hcls := (hE.1.1 ci _ hcl).2
  have hG : GoodIn lwA (va_wsSU own i y (.code y bytes maxL ret :: lwA)) := by
    intro w9 hw
    have h1 : w9 ∈ lwA := by
      simp only [va_wsSU, List.mem_append, List.mem_cons, List.not_mem_nil, or_false] at hw
      rcases hw with (h | h | h | h | h) | h | h
      · rw [h]; exact hlink
      · rw [h]; exact hsame
      · rw [h]; exact hsup
      · rw [h]; exact hinst
      · rw [h]; exact hini
      · rw [h]; exact hcode
      · exact h
    exact ⟨h1, good_of_word (List.mem_filter.mp h1).2⟩
  refine s_after (va_runSU (As := As) (rest := st) (C := C) (cC := D'.1 ci) hcls ⟨hx, hb, hml, hown, hts⟩ hM (va_cwSU As.length hts hG rfl rfl rfl hd9 hR) ⟨sPc_blind, ⟨cell, q1, by rw [q3]; rfl, by rw [q2]; exact hcls.1⟩, fun U hU hW => sPc_at hE h1 h2 h3 hA hz hE1 (hV H locs hz h2 h3) hU hW⟩ rfl rfl h4.1 rfl (lv_room hcat) hd hcs) hz h2 h3 hA hE1 hE2 (fun H1 locs1 g0 g1 g2 => k H1 locs1 ls g0 g1 h2 g2 h4)
/-- a method that another one stands over -/
theorem s_callO (hC : fOK X cc nL own rm l D cy) {x : MethodName} {owner : String} (As : List Value) (hM : sSpec l D cy y bytes maxL ret rm1 (.ref b :: As) w h E1 sv rv sz' E1') (hV : sVw X w h E E1 sv) (hE1 : ∀ a x, E1 a = some x → E a = some x) (hE2 : ∀ a x, E2 a = some x → E1' a = some x ∨ (E1 a = none ∧ E a = some x))
    {ci N : Nat} {T : u_T} {V : Nat → Value} (hcl : fCl[ci]? = some (C, T, N)) (hk : E b = some (.inr (ci, V))) (hsame : Cond.sameMethod x.cls owner x.name x.desc ∈ lwA) (hsel : Cond.selects C x y ∈ lwA) (hins0 : Cond.instanceMethod ⟨owner, x.name, x.desc⟩ ∈ lwA) {b0 : ByteArray} {m0 : Nat} {r0 : Option FieldType} (h0 : Cond.code ⟨owner, x.name, x.desc⟩ b0 m0 r0 ∈ lwA)
    (hcode : Cond.code y bytes maxL ret ∈ lwA) (hini : Cond.initialized y.cls ∈ lwA) (hlink : Cond.methodLink own i x ∈ lwA) (hinst : Cond.instanceMethod y ∈ lwA) (hd9 : owner ≠ "java/lang/invoke/MethodHandle" ∧ owner ≠ "java/lang/invoke/VarHandle" ∧ (parseMethodDescriptor x.desc).map (fun d => d.parameters.length) = some As.length) (hR : rm1.frames + 1 ≤ rm.frames ∧ 8 + (maxL + 11) + rm1.locals ≤ rm.locals) (mc ms : Nat) (hmc : rm1.cells = mc) (hms : rm1.slots = ms) (hcs : cells + mc ≤ rm.cells ∧ slots + ms ≤ rm.slots) (hcat : (st.map fun v => v.category).sum ≤ 8) (hstk : stk = As.reverse ++ .ref b :: st) (hd : decode cc pc = .ok (.invokevirtual i, 3)) (k : gAt X (cells + mc) (slots + ms) nL w sz' E2 L (rv.toList ++ st) (pc + 3)) : gAt X cells slots nL w h E L stk pc := by
  obtain ⟨p, l', e, R, s, m, args, below, meth, c, Q, D', cy', A⟩ := X
  obtain ⟨hx, hb, hml, hown, hts, hE, hA, rfl, rfl, rfl, rfl⟩ := hC
  intro H locs ls hz h1 h2 h3 h4
  subst hstk
  subst hmc
  subst hms
  have hz1 := hz.1
  subst hz1
  obtain ⟨cell, q1, q2, q3, q4⟩ := (hz.2 b _ hk).2.2.2
  have hcls := (hE.1.1 ci _ hcl).2.1
  have hG : GoodIn lwA (va_wsO own i C owner x y (.code y bytes maxL ret :: lwA)) := by
    intro w9 hw
    have h1 : w9 ∈ lwA := by
      simp only [va_wsO, List.mem_append, List.mem_cons, List.not_mem_nil, or_false] at hw
      rcases hw with (h | h | h | h | h | h) | h | h
      · rw [h]; exact hlink
      · rw [h]; exact hsame
      · rw [h]; exact hins0
      · rw [h]; exact hsel
      · rw [h]; exact hinst
      · rw [h]; exact hini
      · rw [h]; exact hcode
      · exact h
    exact ⟨h1, good_of_word (List.mem_filter.mp h1).2⟩
  refine s_after (va_runU (As := As) (rest := st) (C := C) ⟨hx, hb, hml, hown, hts⟩ hM (va_cwO As.length hts hG rfl rfl rfl h0 hd9 hR) ⟨sPc_blind, ⟨cell, q1, by rw [q3]; rfl, by rw [q2]; exact hcls⟩, fun U hU hW => sPc_at hE h1 h2 h3 hA hz hE1 (hV H locs hz h2 h3) hU hW⟩ rfl rfl h4.1 rfl (lv_room hcat) hd hcs) hz h2 h3 hA hE1 hE2 (fun H1 locs1 g0 g1 g2 => k H1 locs1 ls g0 g1 h2 g2 h4)
end SD
section SE
variable {X : FX} {cc : ByteArray} {nL : Nat} {own : String} {rm : Room} {l : Launch} {D : va_G} {cy : Nat → ClassId} {cells slots pc h : Nat} {w : FW} {E E' : gE} {L : List (Nat × Value)} {st stk : List Value} {sv : sTx} {sz' : Nat}
theorem s_post {p : Program} {s : State} {D : va_G} {cy : Nat → ClassId} {w : FW} {A : Nat → Prop} {H : Heap} {locs : List Loc} {h sz' : Nat} {E E' : gE} {rv : Option Value} {args : Array Value} (hz : gOn D w h E A H) (h1 : FH D cy w H) (h3 : va_S A s.heap H locs) (hh : h = sz') (hE : ∀ a x, E' a = some x → E a = some x) : ∀ t : State, t.heap = H → sQ D cy rv w sz' E' A args s (.returned rv) t := fun t ht =>
  ⟨rfl, by rw [ht]; exact h1, by rw [ht]; exact hz.1.trans hh, fun a x hx => ⟨(hz.2 a x (hE a x hx)).1, (hz.2 a x (hE a x hx)).2.1, Nat.lt_of_lt_of_le (hz.2 a x (hE a x hx)).2.2.1 (Nat.le_of_eq (hz.1.trans hh)), by rw [ht]; exact (hz.2 a x (hE a x hx)).2.2.2⟩, h3.F ht⟩
theorem s_vret (hC : fOK X cc nL own rm l D cy) (hEn : sEnd X none none w sz' E' cells slots) (hh : h = sz') (hE : ∀ a x, E' a = some x → E a = some x) (hd : decode cc pc = .ok (.return_, 1)) : gAt X cells slots nL w h E L [] pc := by
  obtain ⟨p, l', e, R, s, m, args, below, meth, c, Q, D', cy', A⟩ := X
  obtain ⟨hx, hb, hml, hown, hts, hEv, hA, rfl, rfl, rfl, rfl⟩ := hC
  intro H locs ls hz h1 h2 h3 h4
  obtain ⟨r1, r2, rfl⟩ := hEn
  exact W.vret hx hb r1 (fun t ht hW => s_post (p := p) hz h1 h3 hh hE t ht) h3.2.2 hd r2
theorem s_iret (hC : fOK X cc nL own rm l D cy) {v : Int32} (hEn : sEnd X (some .int) (some (.int v)) w sz' E' cells slots) (hh : h = sz') (hE : ∀ a x, E' a = some x → E a = some x) (hd : decode cc pc = .ok (.ireturn, 1)) : gAt X cells slots nL w h E L [.int v] pc := by
  obtain ⟨p, l', e, R, s, m, args, below, meth, c, Q, D', cy', A⟩ := X
  obtain ⟨hx, hb, hml, hown, hts, hEv, hA, rfl, rfl, rfl, rfl⟩ := hC
  intro H locs ls hz h1 h2 h3 h4
  obtain ⟨r1, r2, rfl⟩ := hEn
  exact W.iret hx hb r1 (fun t ht hW => s_post (p := p) hz h1 h3 hh hE t ht) h3.2.2 hd r2
theorem s_zret (hC : fOK X cc nL own rm l D cy) {v : Int32} {ty : FieldType} (hEn : sEnd X (some ty) (some (.int v)) w sz' E' cells slots) (hh : h = sz') (hE : ∀ a x, E' a = some x → E a = some x) (hn : narrow ty (.int v) = .int v) (hd : decode cc pc = .ok (.ireturn, 1)) : gAt X cells slots nL w h E L [.int v] pc := by
  obtain ⟨p, l', e, R, s, m, args, below, meth, c, Q, D', cy', A⟩ := X
  obtain ⟨hx, hb, hml, hown, hts, hEv, hA, rfl, rfl, rfl, rfl⟩ := hC
  intro H locs ls hz h1 h2 h3 h4
  obtain ⟨r1, r2, rfl⟩ := hEn
  exact W.zret hx hb r1 hn (fun t ht hW => s_post (p := p) hz h1 h3 hh hE t ht) h3.2.2 hd r2
theorem s_aret (hC : fOK X cc nL own rm l D cy) {v : Nat} {rt : FieldType} (hrt : (∃ n, rt = .object n) ∨ ∃ t, rt = .array t) (hEn : sEnd X (some rt) (some (.ref v)) w sz' E' cells slots) (hh : h = sz') (hE : ∀ a x, E' a = some x → E a = some x) (hd : decode cc pc = .ok (.areturn, 1)) : gAt X cells slots nL w h E L [.ref v] pc := by
  obtain ⟨p, l', e, R, s, m, args, below, meth, c, Q, D', cy', A⟩ := X
  obtain ⟨hx, hb, hml, hown, hts, hEv, hA, rfl, rfl, rfl, rfl⟩ := hC
  intro H locs ls hz h1 h2 h3 h4
  obtain ⟨r1, r2, rfl⟩ := hEn
  exact W.aret hx hb r1 hrt (Or.inr ⟨v, rfl⟩) (fun t ht hW => s_post (p := p) hz h1 h3 hh hE t ht) h3.2.2 hd r2
theorem g_ldcS (hC : fOK X cc nL own rm l D cy) {tx : String} {ix : Nat} (i : Nat) (hs : fStrL[i]? = some (own, ix, tx)) (hd : decode cc pc = .ok (.ldc ix, 2)) (k : gAt X cells slots nL w h E L (.ref (D.2 99 i) :: st) (pc + 2)) : gAt X cells slots nL w h E L st pc := by
  obtain ⟨p, l', e, R, s, m, args, below, meth, c, Q, D', cy', A⟩ := X
  obtain ⟨hx, hb, hml, hown, hts, hE, hA, rfl, rfl, rfl, rfl⟩ := hC
  intro H locs ls hz h1 h2 h3 h4
  exact va_ldcS hx hb hown (hE.2.2.1 i _ hs) hd (k H locs ls hz h1 h2 h3 h4)
theorem g_ldcW (hC : fOK X cc nL own rm l D cy) {tx : String} {ix : Nat} (i : Nat) (hs : fStrL[i]? = some (own, ix, tx)) (hd : decode cc pc = .ok (.ldc_w ix, 3)) (k : gAt X cells slots nL w h E L (.ref (D.2 99 i) :: st) (pc + 3)) : gAt X cells slots nL w h E L st pc := by
  obtain ⟨p, l', e, R, s, m, args, below, meth, c, Q, D', cy', A⟩ := X
  obtain ⟨hx, hb, hml, hown, hts, hE, hA, rfl, rfl, rfl, rfl⟩ := hC
  intro H locs ls hz h1 h2 h3 h4
  intro T hT X
  obtain ⟨t, a1, b1⟩ := k H locs ls hz h1 h2 h3 h4 T hT X
  exact ⟨t, X.ldcStringW hx hown (text := tx) (a := D'.2 99 i) (hE.2.2.1 i _ hs).1 (hE.2.2.1 i _ hs).2 (g := F0 m pc ls st) rfl (by rw [hb]; exact hd) t a1, b1⟩
theorem g_gCS (hC : fOK X cc nL own rm l D cy) {ix : Nat} (hq : Cond.fieldLink own ix "java/lang/String" "COMPACT_STRINGS" "Z" ∈ lwA) (hd : decode cc pc = .ok (.getstatic ix, 3)) (k : gAt X cells slots nL w h E L (.int 1 :: st) (pc + 3)) : gAt X cells slots nL w h E L st pc := by
  obtain ⟨p, l', e, R, s, m, args, below, meth, c, Q, D', cy', A⟩ := X
  obtain ⟨hx, hb, hml, hown, hts, hE, hA, rfl, rfl, rfl, rfl⟩ := hC
  intro H locs ls hz h1 h2 h3 h4
  exact va_gets hx hb hE.2.2.2.2.2.2.1 h3 hown (hts _ hq) (fun _ h => h) hd (k H locs ls hz h1 h2 h3 h4)
theorem g_gDO (hC : fOK X cc nL own rm l D cy) {ix : Nat} (hq : Cond.fieldLink own ix "java/lang/Integer" "DigitOnes" "[B" ∈ lwA) (hd : decode cc pc = .ok (.getstatic ix, 3)) (k : gAt X cells slots nL w h E L (.ref (D.2 97 0) :: st) (pc + 3)) : gAt X cells slots nL w h E L st pc := by
  obtain ⟨p, l', e, R, s, m, args, below, meth, c, Q, D', cy', A⟩ := X
  obtain ⟨hx, hb, hml, hown, hts, hE, hA, rfl, rfl, rfl, rfl⟩ := hC
  intro H locs ls hz h1 h2 h3 h4
  exact va_gets hx hb hE.2.2.2.2.2.2.2.2.1 h3 hown (hts _ hq) (fun _ h => h) hd (k H locs ls hz h1 h2 h3 h4)
theorem g_dob (hC : fOK X cc nL own rm l D cy) {d : Nat} (hd9 : d < 10) (hd : decode cc pc = .ok (.baload, 1)) (k : gAt X cells slots nL w h E L (.int (nI (48 + d)) :: st) (pc + 1)) : gAt X cells slots nL w h E L (.int (nI d) :: .ref (D.2 97 0) :: st) pc := by
  obtain ⟨p, l', e, R, s, m, args, below, meth, c, Q, D', cy', A⟩ := X
  obtain ⟨hx, hb, hml, hown, hts, hE, hA, rfl, rfl, rfl, rfl⟩ := hC
  intro H locs ls hz h1 h2 h3 h4
  obtain ⟨cell, q1, q2, q3, q4, q5, q6, q7⟩ := hE.2.2.2.2.2.2.2.2.2.kept h3.2.1
  have e1 : (nI d).toNatClampNeg = d := nI_clamp (by omega)
  have e2 := q6 d (by omega)
  have e3 : fDg d = .int (nI (48 + d)) := by
    show Value.int (nI (48 + d % 10)) = _
    rw [Nat.mod_eq_of_lt hd9]
  exact W.bald (v := .int (nI (48 + d))) hx hb q1 q2 q3 (fun z => z.elim (fun z => nI_pos (by omega) z) (fun z => by rw [e1] at z; omega)) (by rw [e1, e2, e3]) rfl rfl hd (k H locs ls hz h1 h2 h3 h4)
theorem g_pop (hC : fOK X cc nL own rm l D cy) {v : Value} (hd : decode cc pc = .ok (.pop, 1)) (hv : v.category = 1) (k : gAt X cells slots nL w h E L st (pc + 1)) : gAt X cells slots nL w h E L (v :: st) pc := by
  obtain ⟨p, l', e, R, s, m, args, below, meth, c, Q, D', cy', A⟩ := X
  obtain ⟨hx, hb, hml, hown, hts, hE, hA, rfl, rfl, rfl, rfl⟩ := hC
  intro H locs ls hz h1 h2 h3 h4
  exact lv_pop hx hb hd hv (k H locs ls hz h1 h2 h3 h4)
theorem g_null (hC : fOK X cc nL own rm l D cy) (hd : decode cc pc = .ok (.aconst_null, 1)) (k : gAt X cells slots nL w h E L (.null :: st) (pc + 1)) : gAt X cells slots nL w h E L st pc := by
  obtain ⟨p, l', e, R, s, m, args, below, meth, c, Q, D', cy', A⟩ := X
  obtain ⟨hx, hb, hml, hown, hts, hE, hA, rfl, rfl, rfl, rfl⟩ := hC
  intro H locs ls hz h1 h2 h3 h4
  exact lv_null hx hb hd (k H locs ls hz h1 h2 h3 h4)
theorem g_nonnull (hC : fOK X cc nL own rm l D cy) {x : Nat} {off : Int} (tgt : Nat) (hd : decode cc pc = .ok (.ifnonnull off, 3)) (ht : (pc : Int) + off = (tgt : Int)) (k : gAt X cells slots nL w h E L st tgt) : gAt X cells slots nL w h E L (.ref x :: st) pc := by
  obtain ⟨p, l', e, R, s, m, args, below, meth, c, Q, D', cy', A⟩ := X
  obtain ⟨hx, hb, hml, hown, hts, hE, hA, rfl, rfl, rfl, rfl⟩ := hC
  intro H locs ls hz h1 h2 h3 h4
  exact lv_ifnonnull hx hb hd ht (k H locs ls hz h1 h2 h3 h4)
theorem g_tco (hC : fOK X cc nL own rm l D cy) {ix q v : Nat} {t : List Int32} (hS : sOK X (some (q, v, t))) (hq : Cond.fieldLink own ix "java/lang/String" "coder" "B" ∈ lwA) (hd : decode cc pc = .ok (.getfield ix, 3)) (k : gAt X cells slots nL w h E L (.int 0 :: st) (pc + 3)) : gAt X cells slots nL w h E L (.ref q :: st) pc := by
  obtain ⟨p, l', e, R, s, m, args, below, meth, c, Q, D', cy', A⟩ := X
  obtain ⟨hx, hb, hml, hown, hts, hE, hA, rfl, rfl, rfl, rfl⟩ := hC
  intro H locs ls hz h1 h2 h3 h4
  exact vk_getf hx hb (hS _ rfl).2.1 h3 hown (hts _ hq) (fun _ h => h) hd (k H locs ls hz h1 h2 h3 h4)
theorem g_tva (hC : fOK X cc nL own rm l D cy) {ix q v : Nat} {t : List Int32} (hS : sOK X (some (q, v, t))) (hq : Cond.fieldLink own ix "java/lang/String" "value" "[B" ∈ lwA) (hd : decode cc pc = .ok (.getfield ix, 3)) (k : gAt X cells slots nL w h E L (.ref v :: st) (pc + 3)) : gAt X cells slots nL w h E L (.ref q :: st) pc := by
  obtain ⟨p, l', e, R, s, m, args, below, meth, c, Q, D', cy', A⟩ := X
  obtain ⟨hx, hb, hml, hown, hts, hE, hA, rfl, rfl, rfl, rfl⟩ := hC
  intro H locs ls hz h1 h2 h3 h4
  exact vk_getf hx hb (hS _ rfl).2.2.1 h3 hown (hts _ hq) (fun _ h => h) hd (k H locs ls hz h1 h2 h3 h4)
theorem g_tal (hC : fOK X cc nL own rm l D cy) {q v : Nat} {t : List Int32} (hS : sOK X (some (q, v, t))) (hd : decode cc pc = .ok (.arraylength, 1)) (k : gAt X cells slots nL w h E L (.int (nI t.length) :: st) (pc + 1)) : gAt X cells slots nL w h E L (.ref v :: st) pc := by
  obtain ⟨p, l', e, R, s, m, args, below, meth, c, Q, D', cy', A⟩ := X
  obtain ⟨hx, hb, hml, hown, hts, hE, hA, rfl, rfl, rfl, rfl⟩ := hC
  intro H locs ls hz h1 h2 h3 h4
  obtain ⟨cell, q1, q2, q3, q4, q5, q6, q7⟩ := (hS _ rfl).2.2.2.kept h3.2.1
  exact W.alen hx hb q1 q2 (n := nI t.length) q5 rfl rfl hd (k H locs ls hz h1 h2 h3 h4)
theorem g_tab (hC : fOK X cc nL own rm l D cy) {q v : Nat} {t : List Int32} {j : Int32} (hS : sOK X (some (q, v, t))) (hj : ¬ (j < 0 ∨ t.length ≤ j.toNatClampNeg)) (hd : decode cc pc = .ok (.baload, 1)) (k : gAt X cells slots nL w h E L (.int (t.getD j.toNatClampNeg 0) :: st) (pc + 1)) : gAt X cells slots nL w h E L (.int j :: .ref v :: st) pc := by
  obtain ⟨p, l', e, R, s, m, args, below, meth, c, Q, D', cy', A⟩ := X
  obtain ⟨hx, hb, hml, hown, hts, hE, hA, rfl, rfl, rfl, rfl⟩ := hC
  intro H locs ls hz h1 h2 h3 h4
  obtain ⟨cell, q1, q2, q3, q4, q5, q6, q7⟩ := (hS _ rfl).2.2.2.kept h3.2.1
  exact W.bald (v := .int (t.getD j.toNatClampNeg 0)) hx hb q1 q2 q3 (fun z => hj (z.elim Or.inl (fun z => Or.inr (Nat.le_trans q4 z)))) (q6 _ (Nat.not_le.mp fun z => hj (Or.inr z))) rfl rfl hd (k H locs ls hz h1 h2 h3 h4)
theorem g_alenB (hC : fOK X cc nL own rm l D cy) {a n : Nat} {t : List Int32} (he : E a = some (bYt cy n t)) (hd : decode cc pc = .ok (.arraylength, 1)) (k : gAt X cells slots nL w h E L (.int (nI n) :: st) (pc + 1)) : gAt X cells slots nL w h E L (.ref a :: st) pc := by
  obtain ⟨p, l', e, R, s, m, args, below, meth, c, Q, D', cy', A⟩ := X
  obtain ⟨hx, hb, hml, hown, hts, hE, hA, rfl, rfl, rfl, rfl⟩ := hC
  intro H locs ls hz h1 h2 h3 h4
  exact W.alen hx hb (hz.2 a _ he).2.2.2 ((hE.1.2 6 _ rfl).1 n (fun j => .int (t.getD j 0))) (n := nI n) (by rw [arrV_size]; rfl) rfl rfl hd (k H locs ls hz h1 h2 h3 h4)
theorem g_bastB (hC : fOK X cc nL own rm l D cy) {a n d : Nat} {t t' : List Int32} {x : Int32} (he : E a = some (bYt cy n t)) (hin : d < n) (hn : n < 2 ^ 31) (hx9 : narrow .byte (.int x) = .int x) (ht : ∀ j, j < n → t'.getD j 0 = if j = d then x else t.getD j 0) (hd : decode cc pc = .ok (.bastore, 1)) (k : gAt X cells slots nL w h (gUp E a (some (bYt cy n t'))) L st (pc + 1)) : gAt X cells slots nL w h E L (.int x :: .int (nI d) :: .ref a :: st) pc := by
  obtain ⟨p, l', e, R, s, m, args, below, meth, c, Q, D', cy', A⟩ := X
  obtain ⟨hx, hb, hml, hown, hts, hE, hA, rfl, rfl, rfl, rfl⟩ := hC
  intro H locs ls hz h1 h2 h3 h4
  have hg := hz.2 a _ he
  have hc : (nI d).toNatClampNeg = d := nI_clamp (by omega)
  refine W.bast hx hb hg.2.2.2 ((hE.1.2 6 _ rfl).1 n (fun j => .int (t.getD j 0))) (fun q => by cases q) (by show ¬ (nI d < 0 ∨ (arrV _ _ _).slots.size ≤ _); rw [arrV_size]; exact nI_in hin hn) rfl rfl hd fun H1 e9 z oq => ?_
  refine k H1 _ ls (hz.pin he z oq ?_) (h1.off hg.1 (Nat.le_of_eq z.symm) (fun q _ hq => oq q hq)) h2 (h3.put z oq hg.2.1) h4
  show H1[a]? = some (arrV _ _ _)
  rw [e9, arrV_store, hc, hx9]
  congr 1
  refine g_arrV (fun j hj => ?_)
  unfold updV
  rw [ht j hj]
  by_cases e : j = d
  · rw [if_pos e, if_pos e]
  · rw [if_neg e, if_neg e]
theorem s_copied {cs : Cell} {N : Nat} {f : Nat → Int32} (hv : ∀ j, j < N → cs.slots[j]? = some (.int (f j))) (c1 : ClassId) {n1 sp dp n : Nat} (g : Nat → Int32) (hs : sp + n ≤ N) : (arrV c1 n1 (fun j => .int (g j))).storeRun dp (cs.stretch sp n) = arrV c1 n1 (fun j => .int (va_cpy f g sp dp n j)) := by
  have e : cs.stretch sp n = (List.range n).map (fun i => Value.int (f (sp + i))) := by
    unfold Cell.stretch
    apply List.map_congr_left
    intro i hi
    have hi' := List.mem_range.mp hi
    rw [Array.getD_eq_getD_getElem?, hv _ (by omega)]
    rfl
  rw [e, Cell.storeRun, va_pairs]
  congr 1
  funext k
  simp only [va_cpy, List.length_map, List.length_range, Nat.add_zero]
  by_cases h : dp ≤ k ∧ k < dp + n
  · rw [if_pos h, if_pos h, List.getD_eq_getElem?_getD, List.getElem?_map, List.getElem?_range (by omega)]
    rfl
  · rw [if_neg h, if_neg h]
/-- where a row of bytes is copied from -/
def sSrc (X : FX) (w : FW) (h : Nat) (E : gE) (a0 N : Nat) (f : Nat → Int32) : Prop := match X with
  | (p, l, e, R, s, m, args, below, meth, c, Q, D, cy, A) => ∀ (H : Heap) (locs : List Loc), gOn D w h E A H → va_S A s.heap H locs → ∃ cs : Cell, H[a0]? = some cs ∧ s.isArrayOf cs .byte ∧ cs.vm ≠ .unknown ∧ N ≤ cs.slots.size ∧ ∀ j, j < N → cs.slots[j]? = some (.int (f j))
theorem sSrc_t {q v : Nat} {t : List Int32} (hS : sOK X (some (q, v, t))) : sSrc X w h E v t.length (fun j => t.getD j 0) := by
  obtain ⟨p, l', e, R, s, m, args, below, meth, c, Q, D', cy', A⟩ := X
  intro H locs hz h3
  obtain ⟨cell, q1, q2, q3, q4, q5, q6, q7⟩ := (hS _ rfl).2.2.2.kept h3.2.1
  exact ⟨cell, q1, q2, q3, q4, q6⟩
theorem sSrc_b (hC : fOK X cc nL own rm l D cy) {a n : Nat} {t : List Int32} (he : E a = some (bYt cy n t)) : sSrc X w h E a n (fun j => t.getD j 0) := by
  obtain ⟨p, l', e, R, s, m, args, below, meth, c, Q, D', cy', A⟩ := X
  obtain ⟨hx, hb, hml, hown, hts, hE, hA, rfl, rfl, rfl, rfl⟩ := hC
  intro H locs hz h3
  refine ⟨_, (hz.2 a _ he).2.2.2, (hE.1.2 6 _ rfl).1 n (fun j => .int (t.getD j 0)), (fun h => nomatch h), ?_, (fun j hj => arrV_read _ _ hj)⟩
  rw [arrV_size]
  exact Nat.le_refl _
theorem g_acopy (hC : fOK X cc nL own rm l D cy) {a0 a N n d k9 ix : Nat} {t t' : List Int32} {f : Nat → Int32} (hS : sSrc X w h E a0 N f) (he : E a = some (bYt cy n t)) (hk : k9 ≤ N) (hdn : d + k9 ≤ n) (hn : n < 2 ^ 31) (hf : ∀ j, j < k9 → fits .byte (.int (f j)) = true) (ht : ∀ j, j < n → t'.getD j 0 = if d ≤ j ∧ j < d + k9 then f (j - d) else t.getD j 0)
    (hlink : Cond.methodLink own ix arraycopyName ∈ lwA) (hnat : Cond.native arraycopyName ∈ lwA) (hstat : Cond.static arraycopyName ∈ lwA) (hini : Cond.initialized "java/lang/System" ∈ lwA) (hfr : 1 ≤ rm.frames) (hlo : 8 + (nativeFrameWords "java/lang/System" "arraycopy" 5 + 11) ≤ rm.locals) (hcat : (st.map fun v => v.category).sum ≤ 8) (hd : decode cc pc = .ok (.invokestatic ix, 3))
    (k : gAt X cells slots nL w h (gUp E a (some (bYt cy n t'))) L st (pc + 3)) : gAt X cells slots nL w h E L (.int (nI k9) :: .int (nI d) :: .ref a :: .int 0 :: .ref a0 :: st) pc := by
  obtain ⟨p, l', e, R, s, m, args, below, meth, c, Q, D', cy', A⟩ := X
  obtain ⟨hx, hb, hml, hown, hts, hE, hA, rfl, rfl, rfl, rfl⟩ := hC
  intro H locs ls hz h1 h2 h3 h4
  have hg := hz.2 a _ he
  obtain ⟨cs, c1, c2, c3, c4, c5⟩ := hS H locs hz h3
  obtain ⟨co, k0, hk0, cm0, hkk0⟩ := c2
  obtain ⟨-, k1, hk1, cm1, hkk1⟩ := (hE.1.2 6 _ rfl).1 n (fun j => .int (t.getD j 0))
  have e0 : (0 : Int32).toNatClampNeg = 0 := rfl
  have e1 : (nI k9).toNatClampNeg = k9 := nI_clamp (by omega)
  have e2 : (nI d).toNatClampNeg = d := nI_clamp (by omega)
  have i1 := nI_toInt (n := k9) (by omega)
  have i2 := nI_toInt (n := d) (by omega)
  have hc1 : H[a]? = some (arrV (cy' 6) n (fun j => .int (t.getD j 0))) := hg.2.2.2
  intro T hT X
  obtain ⟨vm', X', step⟩ := X.arraycopy hx hown (hts _ hlink) (hts _ hnat) (hts _ hstat) (hts _ hini) (src := a0) (dst := a) (cs := cs) (cd := arrV (cy' 6) n (fun j => .int (t.getD j 0))) (srcPos := 0) (destPos := nI d) (n := nI k9) (by rw [hT]; exact c1) (by rw [hT]; exact hc1)
    co (fun _ h => by cases h) c3 (fun h => by cases h) hk0 hk1 hkk0 hkk1 (show ((refKind FieldType.byte != refKind FieldType.byte) || (!refKind FieldType.byte && FieldType.byte != FieldType.byte)) = false from by decide) (by decide) (nI_pos (by omega)) (nI_pos (by omega))
    (by rw [i1]; show ¬ ((0 : Int32).toInt + (k9 : Int)) > _; have : (0 : Int32).toInt = 0 := rfl; rw [this]; omega)
    (by rw [i1, i2, arrV_size]; omega)
    (fun vm₁ _ i hi => by
      rw [e0, e1] at *
      have e : cs.slots.getD (0 + i) .null = .int (f i) := by
        rw [Nat.zero_add, Array.getD_eq_getD_getElem?, c5 _ (by omega)]
        rfl
      refine ⟨?_, ?_⟩
      · rw [e]
        exact hf i hi
      · rw [e]
        exact trivial)
    (g := F0 m pc ls (.int (nI k9) :: .int (nI d) :: .ref a :: .int 0 :: .ref a0 :: st)) rfl (h4.1.trans hml.symm) (rest := st) rfl (by rw [hb]; exact hd) hfr (by show 2 * 0 + _ + _ ≤ _; omega)
  have e9 : copied cs (arrV (cy' 6) n (fun j => .int (t.getD j 0))) 0 (nI d) (nI k9) = arrV (cy' 6) n (fun j => .int (t'.getD j 0)) := by
    show (arrV (cy' 6) n (fun j => .int (t.getD j 0))).storeRun (nI d).toNatClampNeg (cs.stretch (0 : Int32).toNatClampNeg (nI k9).toNatClampNeg) = _
    rw [e0, e1, e2, s_copied c5 _ _ (by omega)]
    refine g_arrV (fun j hj => ?_)
    rw [ht j hj]
    unfold va_cpy
    by_cases e : d ≤ j ∧ j < d + k9
    · rw [if_pos e, if_pos e, Nat.zero_add]
    · rw [if_neg e, if_neg e]
  rw [e9] at X' step
  have hl : a < H.size := (Array.getElem?_eq_some_iff.mp hc1).1
  generalize hH1 : H.setIfInBounds a (arrV (cy' 6) n (fun j => .int (t'.getD j 0))) = H1
  have hheap : ((T.setVm vm').setCell a (arrV (cy' 6) n (fun j => .int (t'.getD j 0)))).heap = H1 := by rw [← hH1, ← hT]; rfl
  have z1 : H1.size = H.size := by rw [← hH1]; simp
  have oq : ∀ q : Nat, q ≠ a → H1[q]? = H[q]? := fun q hq => by rw [← hH1]; simp [Array.getElem?_setIfInBounds, Ne.symm hq]
  have o1 : H1[a]? = some (arrV (cy' 6) n (fun j => .int (t'.getD j 0))) := by rw [← hH1]; simp [Array.getElem?_setIfInBounds, hl]
  obtain ⟨t2, a1, b1⟩ := k H1 _ ls (hz.pin he z1 oq o1) (h1.off hg.1 (Nat.le_of_eq z1.symm) (fun q _ hq => oq q hq)) h2 ⟨by rw [z1]; exact h3.1, fun q g1 g2 => by
      rw [oq q (fun e => g2 (by rw [e]; exact hg.2.1))]
      exact h3.2.1 q g1 g2, fun q hq => by
      rcases List.mem_append.mp hq with h | h
      · exact h3.2.2 q h
      · obtain ⟨z, -, hz9⟩ := List.mem_map.mp h
        rw [← hz9]
        exact hg.2.1⟩ h4 _ hheap X'
  exact ⟨t2, step t2 a1, b1⟩
end SE
