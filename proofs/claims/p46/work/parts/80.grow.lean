/-! A world that grows: gAt knows the heap's size and holds pinned cells (objects and arrays that are not yet, or never, of the world). -/
abbrev gE : Type := Nat → Option (Cell ⊕ (Nat × (Nat → Value)))
def gHas (D : va_G) (a : Nat) (H : Heap) (x : Cell ⊕ (Nat × (Nat → Value))) : Prop := match x with
  | .inl x => H[a]? = some x
  | .inr (ci, V) => t_OB a (D.1 ci) (fN ci) (D.2 ci) H V
def gOn (D : va_G) (w : FW) (h : Nat) (E : gE) (A : Nat → Prop) (H : Heap) : Prop := H.size = h ∧ ∀ a x, E a = some x → w.1 a = 0 ∧ A a ∧ a < H.size ∧ gHas D a H x
def gUp (E : gE) (a : Nat) (x : Option (Cell ⊕ (Nat × (Nat → Value)))) : gE := fun q => if q = a then x else E q
theorem gUp_s (E : gE) (a : Nat) (x : Option (Cell ⊕ (Nat × (Nat → Value)))) : gUp E a x a = x := if_pos rfl
theorem gUp_n {E : gE} {a q : Nat} {x : Option (Cell ⊕ (Nat × (Nat → Value)))} (h : ¬ q = a) : gUp E a x q = E q := if_neg h
theorem gHas.kept {D : va_G} {a : Nat} {H H1 : Heap} {x : Cell ⊕ (Nat × (Nat → Value))} (h : gHas D a H x) (hq : H1[a]? = H[a]?) : gHas D a H1 x := by
  rcases x with x | ⟨ci, V⟩
  · exact hq.trans h
  · exact t_OB.kept h hq
/-- a write into the world -/
theorem gOn.put {D : va_G} {w w' : FW} {h a : Nat} {E : gE} {A : Nat → Prop} {H H1 : Heap} (g : gOn D w h E A H) (hk : w'.1 = w.1) (ha : w.1 a ≠ 0) (hz : H1.size = H.size) (oq : ∀ q, q ≠ a → H1[q]? = H[q]?) : gOn D w' h E A H1 :=
  ⟨hz.trans g.1, fun q x hx => ⟨by rw [hk]; exact (g.2 q x hx).1, (g.2 q x hx).2.1, by rw [hz]; exact (g.2 q x hx).2.2.1, (g.2 q x hx).2.2.2.kept (oq q (fun z => ha (by rw [← z]; exact (g.2 q x hx).1)))⟩⟩
/-- a write of a pinned cell -/
theorem gOn.pin {D : va_G} {w : FW} {h a : Nat} {E : gE} {A : Nat → Prop} {H H1 : Heap} {x y : Cell ⊕ (Nat × (Nat → Value))} (g : gOn D w h E A H) (he : E a = some x) (hz : H1.size = H.size) (oq : ∀ q, q ≠ a → H1[q]? = H[q]?) (hy : gHas D a H1 y) : gOn D w h (gUp E a (some y)) A H1 := by
  refine ⟨hz.trans g.1, fun q z hz9 => ?_⟩
  by_cases e : q = a
  · subst e
    rw [gUp_s] at hz9
    cases hz9
    exact ⟨(g.2 q x he).1, (g.2 q x he).2.1, by rw [hz]; exact (g.2 q x he).2.2.1, hy⟩
  · rw [gUp_n e] at hz9
    exact ⟨(g.2 q z hz9).1, (g.2 q z hz9).2.1, by rw [hz]; exact (g.2 q z hz9).2.2.1, (g.2 q z hz9).2.2.2.kept (oq q e)⟩
/-- what is outside the world stays when the world is written elsewhere -/
theorem FH.off {D : va_G} {cy : Nat → ClassId} {w : FW} {H H1 : Heap} {a : Nat} (h : FH D cy w H) (ha : w.1 a = 0) (hz : H.size ≤ H1.size) (oq : ∀ q, q < H.size → q ≠ a → H1[q]? = H[q]?) : FH D cy w H1 := by
  refine ⟨fun q hq => Nat.lt_of_lt_of_le (h.1 q hq) hz, fun q => ?_⟩
  by_cases e : w.1 q = 0
  · exact ⟨fun ci h1 h2 => by omega, fun j h1 h2 => by omega, fun j h1 h2 => by omega⟩
  · exact (h.2 q).kept rfl rfl (oq q (h.1 q e) (fun z => e (by rw [z]; exact ha))) (fun _ _ => rfl) (fun _ _ => rfl)
/-- a world with a new address: all nothing there -/
def nA (w : FW) (a k n : Nat) : FW := (fun q => if q = a then k else w.1 q, fun q => if q = a then n else w.2.1 q, fun c q i => if q = a then 0 else w.2.2.1 c q i, fun c q i => if q = a then 0 else w.2.2.2 c q i)
theorem nA_k (w : FW) (a k n : Nat) : (nA w a k n).1 a = k := if_pos rfl
theorem nA_l (w : FW) (a k n : Nat) : (nA w a k n).2.1 a = n := if_pos rfl
theorem nA_I (w : FW) (a k n c i : Nat) : gI (nA w a k n) c a i = 0 := if_pos rfl
theorem nA_R (w : FW) (a k n c i : Nat) : gR (nA w a k n) c a i = 0 := if_pos rfl
theorem nA_k' {w : FW} {a k n q : Nat} (h : ¬ q = a) : (nA w a k n).1 q = w.1 q := if_neg h
theorem nA_l' {w : FW} {a k n q : Nat} (h : ¬ q = a) : (nA w a k n).2.1 q = w.2.1 q := if_neg h
theorem nA_I' {w : FW} {a k n q c i : Nat} (h : ¬ q = a) : gI (nA w a k n) c q i = gI w c q i := if_neg h
theorem nA_R' {w : FW} {a k n q c i : Nat} (h : ¬ q = a) : gR (nA w a k n) c q i = gR w c q i := if_neg h
/-- off one address two worlds are the same -/
def gOff (w' w : FW) (a : Nat) : Prop := ∀ q, ¬ q = a → w'.1 q = w.1 q ∧ w'.2.1 q = w.2.1 q ∧ (∀ c i, gI w' c q i = gI w c q i) ∧ ∀ c i, gR w' c q i = gR w c q i
theorem gOff.nA (w : FW) (a k n : Nat) : gOff (nA w a k n) w a := fun _ h => ⟨nA_k' h, nA_l' h, fun _ _ => nA_I' h, fun _ _ => nA_R' h⟩
theorem gOff.sI {w' w : FW} {a c i : Nat} {v : Int32} (h : gOff w' w a) : gOff (sI w' c a i v) w a := fun q hq => ⟨(h q hq).1, (h q hq).2.1, fun c' i' => (gI_n (fun z => hq z.2.1)).trans ((h q hq).2.2.1 c' i'), (h q hq).2.2.2⟩
theorem gOff.sR {w' w : FW} {a c i : Nat} {v : Nat} (h : gOff w' w a) : gOff (sR w' c a i v) w a := fun q hq => ⟨(h q hq).1, (h q hq).2.1, (h q hq).2.2.1, fun c' i' => (gR_n (fun z => hq z.2.1)).trans ((h q hq).2.2.2 c' i')⟩
/-- the world takes an address in -/
theorem FH.take {D : va_G} {cy : Nat → ClassId} {w w' : FW} {H : Heap} {a : Nat} (h : FH D cy w H) (ho : gOff w' w a) (hl : a < H.size) (hf : fat D cy w' H a) : FH D cy w' H := by
  refine ⟨fun q hq => ?_, fun q => ?_⟩
  · by_cases e : q = a
    · rw [e]; exact hl
    · exact h.1 q (by rw [← (ho q e).1]; exact hq)
  · by_cases e : q = a
    · rw [e]; exact hf
    · exact (h.2 q).kept (ho q e).1 (ho q e).2.1 rfl (ho q e).2.2.1 (ho q e).2.2.2
def gZ (ci : Nat) : Nat → Value := fun k => if fRf ci k = true then .null else .int 0
def gAt (X : FX) (cells slots n : Nat) (w : FW) (h : Nat) (E : gE) (L : List (Nat × Value)) (st : List Value) (pc : Nat) : Prop := match X with
  | (p, l, e, R, s, m, args, below, meth, c, Q, D, cy, A) => ∀ (H : Heap) (locs : List Loc) (ls : Array Slot), gOn D w h E A H → FH D cy w H → (∀ q, w.1 q ≠ 0 → A q) → va_S A s.heap H locs → lv_has ls n L → W p l e R s m args below meth c H locs cells slots Q (F0 m pc ls st)
def gNm (X : FX) : Prop := match X with
  | (p, l, e, R, s, m, args, below, meth, c, Q, D, cy, A) => meth.name = "<init>"
def gQ (D : va_G) (cy : Nat → ClassId) (w' : FW) (hz : Nat) (A : Nat → Prop) : Array Value → State → Outcome → State → Prop := fun _ st oc t => oc = .returned none ∧ FH D cy w' t.heap ∧ t.heap.size = hz ∧ va_F A st t
def gEnd (X : FX) (w' : FW) (hz : Nat) (mc ms : Nat) : Prop := match X with
  | (p, l, e, R, s, m, args, below, meth, c, Q, D, cy, A) => meth.sig.returnType = none ∧ meth.locks = false ∧ Q = MQ below (gQ D cy w' hz A) args s mc ms A
def gdom (w : FW) (sz b : Nat) : Nat → Prop := fun q => w.1 q ≠ 0 ∨ sz ≤ q ∨ q = b
def gPc (D : va_G) (cy : Nat → ClassId) (ci : Nat) (w : FW) (sz b : Nat) : Array Value → State → Prop := va_Pc [.ref b] (fun U => U.heap.size = sz ∧ FH D cy w U.heap ∧ w.1 b = 0 ∧ b < sz ∧ t_OB b (D.1 ci) (fN ci) (D.2 ci) U.heap (gZ ci) ∧ fEnv D cy (gdom w sz b) U)
/-- a constructor: at a blank object b it makes the world W' w b sz, k cells more -/
def gSpec (l : Launch) (D : va_G) (cy : Nat → ClassId) (y : MethodName) (cc : ByteArray) (nL : Nat) (rm : Room) (ci : Nat) (W' : FW → Nat → Nat → FW) (k : Nat) : Prop :=
  ∀ (w : FW) (sz b : Nat), Met l y (.code y cc nL none :: lwA) rm (gPc D cy ci w sz b) (gQ D cy (W' w b sz) (sz + k) (gdom w sz b)) rm.cells rm.slots (gdom w sz b)
theorem g_begin {l : Launch} {D : va_G} {cy : Nat → ClassId} {y : MethodName} {cc : ByteArray} {nL : Nat} {rm : Room} {ci : Nat} {W' : FW → Nat → Nat → FW} {k : Nat} (hy : plainFor y = true) (hi : y.name = "<init>") (hn : 1 ≤ nL)
    (body : ∀ (X : FX) (w : FW) (sz b : Nat), fOK X cc nL y.cls rm l D cy → gNm X → gEnd X (W' w b sz) (sz + k) rm.cells rm.slots → w.1 b = 0 → b < sz → gAt X 0 0 nL w sz (gUp (fun _ => none) b (some (.inr (ci, gZ ci)))) [(0, .ref b)] [] 0) : gSpec l D cy y cc nL rm ci W' k := by
  intro w sz b
  refine Met.ofWF (cc := cc) (maxL := nL) (ret := none) hy rfl ?_
  intro p e s m args below meth c s₁ B hml hv
  obtain ⟨rfl, hsz, hP, hb0, hb1, hT, hE⟩ := hv
  subst hsz
  have hts := atoms_spec (ws := .code y cc nL none :: lwA) B.pre
  have hl := lv_entry [.ref b] (n := nL) hn
  rw [lg_entry_eq]
  exact body (p, l, e, rm, s, m, [Value.ref b].toArray, below, meth, c, _, D, cy, gdom w s.heap.size b) w s.heap.size b ⟨B.exec, B.bytes, hml, findClass_of_methodNamed B.named, fun w hw => hts w (List.mem_cons_of_mem _ hw), hE, fun q h => Or.inr (Or.inl h), rfl, rfl, rfl, rfl⟩ ((name_of_methodNamed B.named B.method).1.trans hi) ⟨B.returns, B.notSynchronized, rfl⟩ hb0 hb1 s.heap [] _ ⟨rfl, fun a x hx => by
    by_cases e : a = b
    · subst e
      rw [gUp_s] at hx
      cases hx
      exact ⟨hb0, Or.inr (Or.inr rfl), hb1, hT⟩
    · rw [gUp_n e] at hx
      cases hx⟩ hP (fun q h => Or.inl h) va_S.rf hl
theorem gPc_blind {D : va_G} {cy : Nat → ClassId} {ci : Nat} {w : FW} {sz b : Nat} : FrameBlind (gPc D cy ci w sz b) := by
  intro a U g mk q
  obtain ⟨q0, q1, q2, q3, q4, q5, q6⟩ := q
  exact ⟨q0, q1, q2, q3, q4, q5, q6.blind g mk a⟩
theorem g_arrV {cA : ClassId} {n : Nat} {f g : Nat → Value} (h : ∀ i, i < n → f i = g i) : arrV cA n f = arrV cA n g := by
  unfold arrV
  congr 1
  apply Array.ext
  · simp
  · intro i h1 h2
    simp at h1
    simp [h i h1]
section GROWS
variable {X : FX} {cc : ByteArray} {nL : Nat} {own : String} {rm : Room} {l : Launch} {D : va_G} {cy : Nat → ClassId} {cells slots pc h : Nat} {w : FW} {E : gE} {L : List (Nat × Value)} {st : List Value}
theorem g_iconst (hC : fOK X cc nL own rm l D cy) {i : Int} {v : Int32} (hd : decode cc pc = .ok (.iconst i, 1)) (hv : Int32.ofInt i = v) (k : gAt X cells slots nL w h E L (.int v :: st) (pc + 1)) : gAt X cells slots nL w h E L st pc := by
  obtain ⟨p, l', e, R, s, m, args, below, meth, c, Q, D', cy', A⟩ := X
  obtain ⟨hx, hb, hml, hown, hts, hE, hA, rfl, rfl, rfl, rfl⟩ := hC
  intro H locs ls hz h1 h2 h3 h4
  exact lv_iconst hx hb hd hv (k H locs ls hz h1 h2 h3 h4)
theorem g_bipush (hC : fOK X cc nL own rm l D cy) {i : Int} {v : Int32} (hd : decode cc pc = .ok (.bipush i, 2)) (hv : (Int8.ofInt i).toInt32 = v) (k : gAt X cells slots nL w h E L (.int v :: st) (pc + 2)) : gAt X cells slots nL w h E L st pc := by
  obtain ⟨p, l', e, R, s, m, args, below, meth, c, Q, D', cy', A⟩ := X
  obtain ⟨hx, hb, hml, hown, hts, hE, hA, rfl, rfl, rfl, rfl⟩ := hC
  intro H locs ls hz h1 h2 h3 h4
  exact lv_bipush hx hb hd hv (k H locs ls hz h1 h2 h3 h4)
theorem g_sipush (hC : fOK X cc nL own rm l D cy) {i : Int} {v : Int32} (hd : decode cc pc = .ok (.sipush i, 3)) (hv : (Int16.ofInt i).toInt32 = v) (k : gAt X cells slots nL w h E L (.int v :: st) (pc + 3)) : gAt X cells slots nL w h E L st pc := by
  obtain ⟨p, l', e, R, s, m, args, below, meth, c, Q, D', cy', A⟩ := X
  obtain ⟨hx, hb, hml, hown, hts, hE, hA, rfl, rfl, rfl, rfl⟩ := hC
  intro H locs ls hz h1 h2 h3 h4
  exact lv_sipush hx hb hd hv (k H locs ls hz h1 h2 h3 h4)
theorem g_lconst (hC : fOK X cc nL own rm l D cy) {i : Fin 2} {v : Int64} (hd : decode cc pc = .ok (.lconst i, 1)) (hv : Int64.ofNat (i : Nat) = v) (k : gAt X cells slots nL w h E L (.long v :: st) (pc + 1)) : gAt X cells slots nL w h E L st pc := by
  obtain ⟨p, l', e, R, s, m, args, below, meth, c, Q, D', cy', A⟩ := X
  obtain ⟨hx, hb, hml, hown, hts, hE, hA, rfl, rfl, rfl, rfl⟩ := hC
  intro H locs ls hz h1 h2 h3 h4
  exact lv_lconst hx hb hd hv (k H locs ls hz h1 h2 h3 h4)
theorem g_dconst (hC : fOK X cc nL own rm l D cy) (hd : decode cc pc = .ok (.dconst 0, 1)) (k : gAt X cells slots nL w h E L (.double 0 :: st) (pc + 1)) : gAt X cells slots nL w h E L st pc := by
  obtain ⟨p, l', e, R, s, m, args, below, meth, c, Q, D', cy', A⟩ := X
  obtain ⟨hx, hb, hml, hown, hts, hE, hA, rfl, rfl, rfl, rfl⟩ := hC
  intro H locs ls hz h1 h2 h3 h4
  exact lv_dconst0 hx hb hd (k H locs ls hz h1 h2 h3 h4)
theorem g_fconst (hC : fOK X cc nL own rm l D cy) (hd : decode cc pc = .ok (.fconst 0, 1)) (k : gAt X cells slots nL w h E L (.float 0 :: st) (pc + 1)) : gAt X cells slots nL w h E L st pc := by
  obtain ⟨p, l', e, R, s, m, args, below, meth, c, Q, D', cy', A⟩ := X
  obtain ⟨hx, hb, hml, hown, hts, hE, hA, rfl, rfl, rfl, rfl⟩ := hC
  intro H locs ls hz h1 h2 h3 h4
  exact lv_fconst0 hx hb hd (k H locs ls hz h1 h2 h3 h4)
theorem g_iload (hC : fOK X cc nL own rm l D cy) {i : Nat} {x : Int32} (hd : decode cc pc = .ok (.iload i, 2)) (q : Nat) (hl : L[q]? = some (i, .int x)) (k : gAt X cells slots nL w h E L (.int x :: st) (pc + 2)) : gAt X cells slots nL w h E L st pc := by
  obtain ⟨p, l', e, R, s, m, args, below, meth, c, Q, D', cy', A⟩ := X
  obtain ⟨hx, hb, hml, hown, hts, hE, hA, rfl, rfl, rfl, rfl⟩ := hC
  intro H locs ls hz h1 h2 h3 h4
  exact lv_iload hx hb hd (lv_at h4 q hl) (k H locs ls hz h1 h2 h3 h4)
theorem g_iload_n (hC : fOK X cc nL own rm l D cy) {j : Fin 4} {i : Nat} {x : Int32} (hd : decode cc pc = .ok (.iload_n j, 1)) (hi : (j : Nat) = i) (q : Nat) (hl : L[q]? = some (i, .int x)) (k : gAt X cells slots nL w h E L (.int x :: st) (pc + 1)) : gAt X cells slots nL w h E L st pc := by
  obtain ⟨p, l', e, R, s, m, args, below, meth, c, Q, D', cy', A⟩ := X
  obtain ⟨hx, hb, hml, hown, hts, hE, hA, rfl, rfl, rfl, rfl⟩ := hC
  intro H locs ls hz h1 h2 h3 h4
  exact lv_iload_n hx hb hd hi (lv_at h4 q hl) (k H locs ls hz h1 h2 h3 h4)
theorem g_istore (hC : fOK X cc nL own rm l D cy) {i : Nat} {x : Int32} {L' : List (Nat × Value)} (hd : decode cc pc = .ok (.istore i, 2)) (hn : i < nL) (hl : (i, Value.int x) :: L.filter (fun q => !(q.1 == i) && !(q.1 + 1 == i && q.2.category == 2)) = L') (k : gAt X cells slots nL w h E L' st (pc + 2)) : gAt X cells slots nL w h E L (.int x :: st) pc := by
  obtain ⟨p, l', e, R, s, m, args, below, meth, c, Q, D', cy', A⟩ := X
  obtain ⟨hx, hb, hml, hown, hts, hE, hA, rfl, rfl, rfl, rfl⟩ := hC
  intro H locs ls hz h1 h2 h3 h4
  exact lv_istore hx hb hd h4 hn hl (fun ls' h5 => k H locs ls' hz h1 h2 h3 h5)
theorem g_istore_n (hC : fOK X cc nL own rm l D cy) {j : Fin 4} {i : Nat} {x : Int32} {L' : List (Nat × Value)} (hd : decode cc pc = .ok (.istore_n j, 1)) (hi : (j : Nat) = i) (hn : i < nL) (hl : (i, Value.int x) :: L.filter (fun q => !(q.1 == i) && !(q.1 + 1 == i && q.2.category == 2)) = L') (k : gAt X cells slots nL w h E L' st (pc + 1)) : gAt X cells slots nL w h E L (.int x :: st) pc := by
  obtain ⟨p, l', e, R, s, m, args, below, meth, c, Q, D', cy', A⟩ := X
  obtain ⟨hx, hb, hml, hown, hts, hE, hA, rfl, rfl, rfl, rfl⟩ := hC
  intro H locs ls hz h1 h2 h3 h4
  exact lv_istore_n hx hb hd hi h4 hn hl (fun ls' h5 => k H locs ls' hz h1 h2 h3 h5)
theorem g_aload (hC : fOK X cc nL own rm l D cy) {i : Nat} {x : Nat} (hd : decode cc pc = .ok (.aload i, 2)) (q : Nat) (hl : L[q]? = some (i, .ref x)) (k : gAt X cells slots nL w h E L (.ref x :: st) (pc + 2)) : gAt X cells slots nL w h E L st pc := by
  obtain ⟨p, l', e, R, s, m, args, below, meth, c, Q, D', cy', A⟩ := X
  obtain ⟨hx, hb, hml, hown, hts, hE, hA, rfl, rfl, rfl, rfl⟩ := hC
  intro H locs ls hz h1 h2 h3 h4
  exact lv_aload hx hb hd (lv_at h4 q hl) (k H locs ls hz h1 h2 h3 h4)
theorem g_aload_n (hC : fOK X cc nL own rm l D cy) {j : Fin 4} {i : Nat} {x : Nat} (hd : decode cc pc = .ok (.aload_n j, 1)) (hi : (j : Nat) = i) (q : Nat) (hl : L[q]? = some (i, .ref x)) (k : gAt X cells slots nL w h E L (.ref x :: st) (pc + 1)) : gAt X cells slots nL w h E L st pc := by
  obtain ⟨p, l', e, R, s, m, args, below, meth, c, Q, D', cy', A⟩ := X
  obtain ⟨hx, hb, hml, hown, hts, hE, hA, rfl, rfl, rfl, rfl⟩ := hC
  intro H locs ls hz h1 h2 h3 h4
  exact lv_aload_n hx hb hd hi (lv_at h4 q hl) (k H locs ls hz h1 h2 h3 h4)
theorem g_astore (hC : fOK X cc nL own rm l D cy) {i : Nat} {x : Nat} {L' : List (Nat × Value)} (hd : decode cc pc = .ok (.astore i, 2)) (hn : i < nL) (hl : (i, Value.ref x) :: L.filter (fun q => !(q.1 == i) && !(q.1 + 1 == i && q.2.category == 2)) = L') (k : gAt X cells slots nL w h E L' st (pc + 2)) : gAt X cells slots nL w h E L (.ref x :: st) pc := by
  obtain ⟨p, l', e, R, s, m, args, below, meth, c, Q, D', cy', A⟩ := X
  obtain ⟨hx, hb, hml, hown, hts, hE, hA, rfl, rfl, rfl, rfl⟩ := hC
  intro H locs ls hz h1 h2 h3 h4
  exact lv_astore hx hb hd h4 hn hl (fun ls' h5 => k H locs ls' hz h1 h2 h3 h5)
theorem g_astore_n (hC : fOK X cc nL own rm l D cy) {j : Fin 4} {i : Nat} {x : Nat} {L' : List (Nat × Value)} (hd : decode cc pc = .ok (.astore_n j, 1)) (hi : (j : Nat) = i) (hn : i < nL) (hl : (i, Value.ref x) :: L.filter (fun q => !(q.1 == i) && !(q.1 + 1 == i && q.2.category == 2)) = L') (k : gAt X cells slots nL w h E L' st (pc + 1)) : gAt X cells slots nL w h E L (.ref x :: st) pc := by
  obtain ⟨p, l', e, R, s, m, args, below, meth, c, Q, D', cy', A⟩ := X
  obtain ⟨hx, hb, hml, hown, hts, hE, hA, rfl, rfl, rfl, rfl⟩ := hC
  intro H locs ls hz h1 h2 h3 h4
  exact lv_astore_n hx hb hd hi h4 hn hl (fun ls' h5 => k H locs ls' hz h1 h2 h3 h5)
theorem g_iinc (hC : fOK X cc nL own rm l D cy) {i : Nat} {d : Int} {x v : Int32} {L' : List (Nat × Value)} (hd : decode cc pc = .ok (.iinc i d, 3)) (q : Nat) (hq : L[q]? = some (i, .int x)) (hv : x + Int32.ofInt d = v) (hn : i < nL) (hl : (i, Value.int v) :: L.filter (fun q => !(q.1 == i) && !(q.1 + 1 == i && q.2.category == 2)) = L') (k : gAt X cells slots nL w h E L' st (pc + 3)) : gAt X cells slots nL w h E L st pc := by
  obtain ⟨p, l', e, R, s, m, args, below, meth, c, Q, D', cy', A⟩ := X
  obtain ⟨hx, hb, hml, hown, hts, hE, hA, rfl, rfl, rfl, rfl⟩ := hC
  intro H locs ls hz h1 h2 h3 h4
  exact lv_iinc hx hb hd h4 hq hv hn hl (fun ls' h5 => k H locs ls' hz h1 h2 h3 h5)
theorem g_iadd (hC : fOK X cc nL own rm l D cy) {x y : Int32} (hd : decode cc pc = .ok (.iadd, 1)) (k : gAt X cells slots nL w h E L (.int (x + y) :: st) (pc + 1)) : gAt X cells slots nL w h E L (.int y :: .int x :: st) pc := by
  obtain ⟨p, l', e, R, s, m, args, below, meth, c, Q, D', cy', A⟩ := X
  obtain ⟨hx, hb, hml, hown, hts, hE, hA, rfl, rfl, rfl, rfl⟩ := hC
  intro H locs ls hz h1 h2 h3 h4
  exact lv_iadd hx hb hd (k H locs ls hz h1 h2 h3 h4)
theorem g_isub (hC : fOK X cc nL own rm l D cy) {x y : Int32} (hd : decode cc pc = .ok (.isub, 1)) (k : gAt X cells slots nL w h E L (.int (x - y) :: st) (pc + 1)) : gAt X cells slots nL w h E L (.int y :: .int x :: st) pc := by
  obtain ⟨p, l', e, R, s, m, args, below, meth, c, Q, D', cy', A⟩ := X
  obtain ⟨hx, hb, hml, hown, hts, hE, hA, rfl, rfl, rfl, rfl⟩ := hC
  intro H locs ls hz h1 h2 h3 h4
  exact lv_isub hx hb hd (k H locs ls hz h1 h2 h3 h4)
theorem g_imul (hC : fOK X cc nL own rm l D cy) {x y : Int32} (hd : decode cc pc = .ok (.imul, 1)) (k : gAt X cells slots nL w h E L (.int (x * y) :: st) (pc + 1)) : gAt X cells slots nL w h E L (.int y :: .int x :: st) pc := by
  obtain ⟨p, l', e, R, s, m, args, below, meth, c, Q, D', cy', A⟩ := X
  obtain ⟨hx, hb, hml, hown, hts, hE, hA, rfl, rfl, rfl, rfl⟩ := hC
  intro H locs ls hz h1 h2 h3 h4
  exact lv_imul hx hb hd (k H locs ls hz h1 h2 h3 h4)
theorem g_iand (hC : fOK X cc nL own rm l D cy) {x y : Int32} (hd : decode cc pc = .ok (.iand, 1)) (k : gAt X cells slots nL w h E L (.int (x &&& y) :: st) (pc + 1)) : gAt X cells slots nL w h E L (.int y :: .int x :: st) pc := by
  obtain ⟨p, l', e, R, s, m, args, below, meth, c, Q, D', cy', A⟩ := X
  obtain ⟨hx, hb, hml, hown, hts, hE, hA, rfl, rfl, rfl, rfl⟩ := hC
  intro H locs ls hz h1 h2 h3 h4
  exact lv_iand hx hb hd (k H locs ls hz h1 h2 h3 h4)
theorem g_ixor (hC : fOK X cc nL own rm l D cy) {x y : Int32} (hd : decode cc pc = .ok (.ixor, 1)) (k : gAt X cells slots nL w h E L (.int (x ^^^ y) :: st) (pc + 1)) : gAt X cells slots nL w h E L (.int y :: .int x :: st) pc := by
  obtain ⟨p, l', e, R, s, m, args, below, meth, c, Q, D', cy', A⟩ := X
  obtain ⟨hx, hb, hml, hown, hts, hE, hA, rfl, rfl, rfl, rfl⟩ := hC
  intro H locs ls hz h1 h2 h3 h4
  exact lv_ixor hx hb hd (k H locs ls hz h1 h2 h3 h4)
theorem g_ishl (hC : fOK X cc nL own rm l D cy) {x y : Int32} (hd : decode cc pc = .ok (.ishl, 1)) (k : gAt X cells slots nL w h E L (.int (x <<< (y &&& 31)) :: st) (pc + 1)) : gAt X cells slots nL w h E L (.int y :: .int x :: st) pc := by
  obtain ⟨p, l', e, R, s, m, args, below, meth, c, Q, D', cy', A⟩ := X
  obtain ⟨hx, hb, hml, hown, hts, hE, hA, rfl, rfl, rfl, rfl⟩ := hC
  intro H locs ls hz h1 h2 h3 h4
  exact lv_ishl hx hb hd (k H locs ls hz h1 h2 h3 h4)
theorem g_ishr (hC : fOK X cc nL own rm l D cy) {x y : Int32} (hd : decode cc pc = .ok (.ishr, 1)) (k : gAt X cells slots nL w h E L (.int (x >>> (y &&& 31)) :: st) (pc + 1)) : gAt X cells slots nL w h E L (.int y :: .int x :: st) pc := by
  obtain ⟨p, l', e, R, s, m, args, below, meth, c, Q, D', cy', A⟩ := X
  obtain ⟨hx, hb, hml, hown, hts, hE, hA, rfl, rfl, rfl, rfl⟩ := hC
  intro H locs ls hz h1 h2 h3 h4
  exact lv_ishr hx hb hd (k H locs ls hz h1 h2 h3 h4)
theorem g_iushr (hC : fOK X cc nL own rm l D cy) {x y : Int32} (hd : decode cc pc = .ok (.iushr, 1)) (k : gAt X cells slots nL w h E L (.int (fushr x y) :: st) (pc + 1)) : gAt X cells slots nL w h E L (.int y :: .int x :: st) pc := by
  obtain ⟨p, l', e, R, s, m, args, below, meth, c, Q, D', cy', A⟩ := X
  obtain ⟨hx, hb, hml, hown, hts, hE, hA, rfl, rfl, rfl, rfl⟩ := hC
  intro H locs ls hz h1 h2 h3 h4
  exact lv_iushr hx hb hd rfl (k H locs ls hz h1 h2 h3 h4)
theorem g_ineg (hC : fOK X cc nL own rm l D cy) {x : Int32} (hd : decode cc pc = .ok (.ineg, 1)) (k : gAt X cells slots nL w h E L (.int (-x) :: st) (pc + 1)) : gAt X cells slots nL w h E L (.int x :: st) pc := by
  obtain ⟨p, l', e, R, s, m, args, below, meth, c, Q, D', cy', A⟩ := X
  obtain ⟨hx, hb, hml, hown, hts, hE, hA, rfl, rfl, rfl, rfl⟩ := hC
  intro H locs ls hz h1 h2 h3 h4
  exact lv_ineg hx hb hd (k H locs ls hz h1 h2 h3 h4)
theorem g_i2c (hC : fOK X cc nL own rm l D cy) {x : Int32} (hd : decode cc pc = .ok (.i2c, 1)) (k : gAt X cells slots nL w h E L (.int (fch x) :: st) (pc + 1)) : gAt X cells slots nL w h E L (.int x :: st) pc := by
  obtain ⟨p, l', e, R, s, m, args, below, meth, c, Q, D', cy', A⟩ := X
  obtain ⟨hx, hb, hml, hown, hts, hE, hA, rfl, rfl, rfl, rfl⟩ := hC
  intro H locs ls hz h1 h2 h3 h4
  exact lv_i2c hx hb hd rfl (k H locs ls hz h1 h2 h3 h4)
theorem g_idiv (hC : fOK X cc nL own rm l D cy) {x y : Int32} (hd : decode cc pc = .ok (.idiv, 1)) (hy : ¬ y = 0) (k : gAt X cells slots nL w h E L (.int (x / y) :: st) (pc + 1)) : gAt X cells slots nL w h E L (.int y :: .int x :: st) pc := by
  obtain ⟨p, l', e, R, s, m, args, below, meth, c, Q, D', cy', A⟩ := X
  obtain ⟨hx, hb, hml, hown, hts, hE, hA, rfl, rfl, rfl, rfl⟩ := hC
  intro H locs ls hz h1 h2 h3 h4
  exact lv_idiv hx hb hd hy (k H locs ls hz h1 h2 h3 h4)
theorem g_irem (hC : fOK X cc nL own rm l D cy) {x y : Int32} (hd : decode cc pc = .ok (.irem, 1)) (hy : ¬ y = 0) (k : gAt X cells slots nL w h E L (.int (frem x y) :: st) (pc + 1)) : gAt X cells slots nL w h E L (.int y :: .int x :: st) pc := by
  obtain ⟨p, l', e, R, s, m, args, below, meth, c, Q, D', cy', A⟩ := X
  obtain ⟨hx, hb, hml, hown, hts, hE, hA, rfl, rfl, rfl, rfl⟩ := hC
  intro H locs ls hz h1 h2 h3 h4
  exact lv_irem hx hb hd hy (k H locs ls hz h1 h2 h3 h4)
theorem g_i2l (hC : fOK X cc nL own rm l D cy) {x : Int32} (hd : decode cc pc = .ok (.i2l, 1)) (k : gAt X cells slots nL w h E L (.long x.toInt64 :: st) (pc + 1)) : gAt X cells slots nL w h E L (.int x :: st) pc := by
  obtain ⟨p, l', e, R, s, m, args, below, meth, c, Q, D', cy', A⟩ := X
  obtain ⟨hx, hb, hml, hown, hts, hE, hA, rfl, rfl, rfl, rfl⟩ := hC
  intro H locs ls hz h1 h2 h3 h4
  exact lv_i2l hx hb hd rfl (k H locs ls hz h1 h2 h3 h4)
theorem g_i2d (hC : fOK X cc nL own rm l D cy) {x : Int32} (hd : decode cc pc = .ok (.i2d, 1)) (k : gAt X cells slots nL w h E L (.double (FP.i2d x) :: st) (pc + 1)) : gAt X cells slots nL w h E L (.int x :: st) pc := by
  obtain ⟨p, l', e, R, s, m, args, below, meth, c, Q, D', cy', A⟩ := X
  obtain ⟨hx, hb, hml, hown, hts, hE, hA, rfl, rfl, rfl, rfl⟩ := hC
  intro H locs ls hz h1 h2 h3 h4
  exact lv_i2d hx hb hd (k H locs ls hz h1 h2 h3 h4)
theorem g_i2f (hC : fOK X cc nL own rm l D cy) {x : Int32} (hd : decode cc pc = .ok (.i2f, 1)) (k : gAt X cells slots nL w h E L (.float (FP.i2f x) :: st) (pc + 1)) : gAt X cells slots nL w h E L (.int x :: st) pc := by
  obtain ⟨p, l', e, R, s, m, args, below, meth, c, Q, D', cy', A⟩ := X
  obtain ⟨hx, hb, hml, hown, hts, hE, hA, rfl, rfl, rfl, rfl⟩ := hC
  intro H locs ls hz h1 h2 h3 h4
  exact lv_i2f hx hb hd (k H locs ls hz h1 h2 h3 h4)
theorem g_ddiv (hC : fOK X cc nL own rm l D cy) {x y : UInt64} (hd : decode cc pc = .ok (.ddiv, 1)) (hn : vf_n64 (FP.ddiv x y)) (k : gAt X cells slots nL w h E L (.double (FP.ddiv x y) :: st) (pc + 1)) : gAt X cells slots nL w h E L (.double y :: .double x :: st) pc := by
  obtain ⟨p, l', e, R, s, m, args, below, meth, c, Q, D', cy', A⟩ := X
  obtain ⟨hx, hb, hml, hown, hts, hE, hA, rfl, rfl, rfl, rfl⟩ := hC
  intro H locs ls hz h1 h2 h3 h4
  exact lv_ddiv hx hb hd hn (k H locs ls hz h1 h2 h3 h4)
theorem g_fdiv (hC : fOK X cc nL own rm l D cy) {x y : UInt32} (hd : decode cc pc = .ok (.fdiv, 1)) (hn : vf_n32 (FP.fdiv x y)) (k : gAt X cells slots nL w h E L (.float (FP.fdiv x y) :: st) (pc + 1)) : gAt X cells slots nL w h E L (.float y :: .float x :: st) pc := by
  obtain ⟨p, l', e, R, s, m, args, below, meth, c, Q, D', cy', A⟩ := X
  obtain ⟨hx, hb, hml, hown, hts, hE, hA, rfl, rfl, rfl, rfl⟩ := hC
  intro H locs ls hz h1 h2 h3 h4
  exact lv_fdiv hx hb hd hn (k H locs ls hz h1 h2 h3 h4)
theorem g_dup (hC : fOK X cc nL own rm l D cy) {v : Value} (hd : decode cc pc = .ok (.dup, 1)) (hv : v.category = 1) (k : gAt X cells slots nL w h E L (v :: v :: st) (pc + 1)) : gAt X cells slots nL w h E L (v :: st) pc := by
  obtain ⟨p, l', e, R, s, m, args, below, meth, c, Q, D', cy', A⟩ := X
  obtain ⟨hx, hb, hml, hown, hts, hE, hA, rfl, rfl, rfl, rfl⟩ := hC
  intro H locs ls hz h1 h2 h3 h4
  exact lv_dup hx hb hd hv (k H locs ls hz h1 h2 h3 h4)
theorem g_dup2 (hC : fOK X cc nL own rm l D cy) {v u : Value} (hd : decode cc pc = .ok (.dup2, 1)) (hv : v.category = 1) (hu : u.category = 1) (k : gAt X cells slots nL w h E L (v :: u :: v :: u :: st) (pc + 1)) : gAt X cells slots nL w h E L (v :: u :: st) pc := by
  obtain ⟨p, l', e, R, s, m, args, below, meth, c, Q, D', cy', A⟩ := X
  obtain ⟨hx, hb, hml, hown, hts, hE, hA, rfl, rfl, rfl, rfl⟩ := hC
  intro H locs ls hz h1 h2 h3 h4
  exact lv_dup2_11 hx hb hd hv hu (k H locs ls hz h1 h2 h3 h4)
theorem g_goto (hC : fOK X cc nL own rm l D cy) {off : Int} (tgt : Nat) (hd : decode cc pc = .ok (.goto off, 3)) (ht : (pc : Int) + off = (tgt : Int)) (k : gAt X cells slots nL w h E L st tgt) : gAt X cells slots nL w h E L st pc := by
  obtain ⟨p, l', e, R, s, m, args, below, meth, c, Q, D', cy', A⟩ := X
  obtain ⟨hx, hb, hml, hown, hts, hE, hA, rfl, rfl, rfl, rfl⟩ := hC
  intro H locs ls hz h1 h2 h3 h4
  exact lv_goto hx hb hd ht (k H locs ls hz h1 h2 h3 h4)
theorem g_if_eq (hC : fOK X cc nL own rm l D cy) {x : Int32} {off : Int} (tgt : Nat) (hd : decode cc pc = .ok (.ifCond .eq off, 3)) (ht : (pc : Int) + off = (tgt : Int)) (kt : x = 0 → gAt X cells slots nL w h E L st tgt) (kf : ¬ x = 0 → gAt X cells slots nL w h E L st (pc + 3)) : gAt X cells slots nL w h E L (.int x :: st) pc := by
  obtain ⟨p, l', e, R, s, m, args, below, meth, c, Q, D', cy', A⟩ := X
  obtain ⟨hx, hb, hml, hown, hts, hE, hA, rfl, rfl, rfl, rfl⟩ := hC
  intro H locs ls hz h1 h2 h3 h4
  exact lv_if_eq hx hb hd ht (fun hc => kt hc H locs ls hz h1 h2 h3 h4) (fun hc => kf hc H locs ls hz h1 h2 h3 h4)
theorem g_icmp_eq (hC : fOK X cc nL own rm l D cy) {x y : Int32} {off : Int} (tgt : Nat) (hd : decode cc pc = .ok (.if_icmp .eq off, 3)) (ht : (pc : Int) + off = (tgt : Int)) (kt : x = y → gAt X cells slots nL w h E L st tgt) (kf : ¬ x = y → gAt X cells slots nL w h E L st (pc + 3)) : gAt X cells slots nL w h E L (.int y :: .int x :: st) pc := by
  obtain ⟨p, l', e, R, s, m, args, below, meth, c, Q, D', cy', A⟩ := X
  obtain ⟨hx, hb, hml, hown, hts, hE, hA, rfl, rfl, rfl, rfl⟩ := hC
  intro H locs ls hz h1 h2 h3 h4
  exact lv_icmp_eq hx hb hd ht (fun hc => kt hc H locs ls hz h1 h2 h3 h4) (fun hc => kf hc H locs ls hz h1 h2 h3 h4)
theorem g_if_ne (hC : fOK X cc nL own rm l D cy) {x : Int32} {off : Int} (tgt : Nat) (hd : decode cc pc = .ok (.ifCond .ne off, 3)) (ht : (pc : Int) + off = (tgt : Int)) (kt : ¬ x = 0 → gAt X cells slots nL w h E L st tgt) (kf : x = 0 → gAt X cells slots nL w h E L st (pc + 3)) : gAt X cells slots nL w h E L (.int x :: st) pc := by
  obtain ⟨p, l', e, R, s, m, args, below, meth, c, Q, D', cy', A⟩ := X
  obtain ⟨hx, hb, hml, hown, hts, hE, hA, rfl, rfl, rfl, rfl⟩ := hC
  intro H locs ls hz h1 h2 h3 h4
  exact lv_if_ne hx hb hd ht (fun hc => kt hc H locs ls hz h1 h2 h3 h4) (fun hc => kf hc H locs ls hz h1 h2 h3 h4)
theorem g_icmp_ne (hC : fOK X cc nL own rm l D cy) {x y : Int32} {off : Int} (tgt : Nat) (hd : decode cc pc = .ok (.if_icmp .ne off, 3)) (ht : (pc : Int) + off = (tgt : Int)) (kt : ¬ x = y → gAt X cells slots nL w h E L st tgt) (kf : x = y → gAt X cells slots nL w h E L st (pc + 3)) : gAt X cells slots nL w h E L (.int y :: .int x :: st) pc := by
  obtain ⟨p, l', e, R, s, m, args, below, meth, c, Q, D', cy', A⟩ := X
  obtain ⟨hx, hb, hml, hown, hts, hE, hA, rfl, rfl, rfl, rfl⟩ := hC
  intro H locs ls hz h1 h2 h3 h4
  exact lv_icmp_ne hx hb hd ht (fun hc => kt hc H locs ls hz h1 h2 h3 h4) (fun hc => kf hc H locs ls hz h1 h2 h3 h4)
theorem g_if_lt (hC : fOK X cc nL own rm l D cy) {x : Int32} {off : Int} (tgt : Nat) (hd : decode cc pc = .ok (.ifCond .lt off, 3)) (ht : (pc : Int) + off = (tgt : Int)) (kt : x < 0 → gAt X cells slots nL w h E L st tgt) (kf : ¬ x < 0 → gAt X cells slots nL w h E L st (pc + 3)) : gAt X cells slots nL w h E L (.int x :: st) pc := by
  obtain ⟨p, l', e, R, s, m, args, below, meth, c, Q, D', cy', A⟩ := X
  obtain ⟨hx, hb, hml, hown, hts, hE, hA, rfl, rfl, rfl, rfl⟩ := hC
  intro H locs ls hz h1 h2 h3 h4
  exact lv_if_lt hx hb hd ht (fun hc => kt hc H locs ls hz h1 h2 h3 h4) (fun hc => kf hc H locs ls hz h1 h2 h3 h4)
theorem g_icmp_lt (hC : fOK X cc nL own rm l D cy) {x y : Int32} {off : Int} (tgt : Nat) (hd : decode cc pc = .ok (.if_icmp .lt off, 3)) (ht : (pc : Int) + off = (tgt : Int)) (kt : x < y → gAt X cells slots nL w h E L st tgt) (kf : ¬ x < y → gAt X cells slots nL w h E L st (pc + 3)) : gAt X cells slots nL w h E L (.int y :: .int x :: st) pc := by
  obtain ⟨p, l', e, R, s, m, args, below, meth, c, Q, D', cy', A⟩ := X
  obtain ⟨hx, hb, hml, hown, hts, hE, hA, rfl, rfl, rfl, rfl⟩ := hC
  intro H locs ls hz h1 h2 h3 h4
  exact lv_icmp_lt hx hb hd ht (fun hc => kt hc H locs ls hz h1 h2 h3 h4) (fun hc => kf hc H locs ls hz h1 h2 h3 h4)
theorem g_if_ge (hC : fOK X cc nL own rm l D cy) {x : Int32} {off : Int} (tgt : Nat) (hd : decode cc pc = .ok (.ifCond .ge off, 3)) (ht : (pc : Int) + off = (tgt : Int)) (kt : 0 ≤ x → gAt X cells slots nL w h E L st tgt) (kf : ¬ 0 ≤ x → gAt X cells slots nL w h E L st (pc + 3)) : gAt X cells slots nL w h E L (.int x :: st) pc := by
  obtain ⟨p, l', e, R, s, m, args, below, meth, c, Q, D', cy', A⟩ := X
  obtain ⟨hx, hb, hml, hown, hts, hE, hA, rfl, rfl, rfl, rfl⟩ := hC
  intro H locs ls hz h1 h2 h3 h4
  exact lv_if_ge hx hb hd ht (fun hc => kt hc H locs ls hz h1 h2 h3 h4) (fun hc => kf hc H locs ls hz h1 h2 h3 h4)
theorem g_icmp_ge (hC : fOK X cc nL own rm l D cy) {x y : Int32} {off : Int} (tgt : Nat) (hd : decode cc pc = .ok (.if_icmp .ge off, 3)) (ht : (pc : Int) + off = (tgt : Int)) (kt : y ≤ x → gAt X cells slots nL w h E L st tgt) (kf : ¬ y ≤ x → gAt X cells slots nL w h E L st (pc + 3)) : gAt X cells slots nL w h E L (.int y :: .int x :: st) pc := by
  obtain ⟨p, l', e, R, s, m, args, below, meth, c, Q, D', cy', A⟩ := X
  obtain ⟨hx, hb, hml, hown, hts, hE, hA, rfl, rfl, rfl, rfl⟩ := hC
  intro H locs ls hz h1 h2 h3 h4
  exact lv_icmp_ge hx hb hd ht (fun hc => kt hc H locs ls hz h1 h2 h3 h4) (fun hc => kf hc H locs ls hz h1 h2 h3 h4)
theorem g_if_gt (hC : fOK X cc nL own rm l D cy) {x : Int32} {off : Int} (tgt : Nat) (hd : decode cc pc = .ok (.ifCond .gt off, 3)) (ht : (pc : Int) + off = (tgt : Int)) (kt : 0 < x → gAt X cells slots nL w h E L st tgt) (kf : ¬ 0 < x → gAt X cells slots nL w h E L st (pc + 3)) : gAt X cells slots nL w h E L (.int x :: st) pc := by
  obtain ⟨p, l', e, R, s, m, args, below, meth, c, Q, D', cy', A⟩ := X
  obtain ⟨hx, hb, hml, hown, hts, hE, hA, rfl, rfl, rfl, rfl⟩ := hC
  intro H locs ls hz h1 h2 h3 h4
  exact lv_if_gt hx hb hd ht (fun hc => kt hc H locs ls hz h1 h2 h3 h4) (fun hc => kf hc H locs ls hz h1 h2 h3 h4)
theorem g_icmp_gt (hC : fOK X cc nL own rm l D cy) {x y : Int32} {off : Int} (tgt : Nat) (hd : decode cc pc = .ok (.if_icmp .gt off, 3)) (ht : (pc : Int) + off = (tgt : Int)) (kt : y < x → gAt X cells slots nL w h E L st tgt) (kf : ¬ y < x → gAt X cells slots nL w h E L st (pc + 3)) : gAt X cells slots nL w h E L (.int y :: .int x :: st) pc := by
  obtain ⟨p, l', e, R, s, m, args, below, meth, c, Q, D', cy', A⟩ := X
  obtain ⟨hx, hb, hml, hown, hts, hE, hA, rfl, rfl, rfl, rfl⟩ := hC
  intro H locs ls hz h1 h2 h3 h4
  exact lv_icmp_gt hx hb hd ht (fun hc => kt hc H locs ls hz h1 h2 h3 h4) (fun hc => kf hc H locs ls hz h1 h2 h3 h4)
theorem g_if_le (hC : fOK X cc nL own rm l D cy) {x : Int32} {off : Int} (tgt : Nat) (hd : decode cc pc = .ok (.ifCond .le off, 3)) (ht : (pc : Int) + off = (tgt : Int)) (kt : x ≤ 0 → gAt X cells slots nL w h E L st tgt) (kf : ¬ x ≤ 0 → gAt X cells slots nL w h E L st (pc + 3)) : gAt X cells slots nL w h E L (.int x :: st) pc := by
  obtain ⟨p, l', e, R, s, m, args, below, meth, c, Q, D', cy', A⟩ := X
  obtain ⟨hx, hb, hml, hown, hts, hE, hA, rfl, rfl, rfl, rfl⟩ := hC
  intro H locs ls hz h1 h2 h3 h4
  exact lv_if_le hx hb hd ht (fun hc => kt hc H locs ls hz h1 h2 h3 h4) (fun hc => kf hc H locs ls hz h1 h2 h3 h4)
theorem g_icmp_le (hC : fOK X cc nL own rm l D cy) {x y : Int32} {off : Int} (tgt : Nat) (hd : decode cc pc = .ok (.if_icmp .le off, 3)) (ht : (pc : Int) + off = (tgt : Int)) (kt : x ≤ y → gAt X cells slots nL w h E L st tgt) (kf : ¬ x ≤ y → gAt X cells slots nL w h E L st (pc + 3)) : gAt X cells slots nL w h E L (.int y :: .int x :: st) pc := by
  obtain ⟨p, l', e, R, s, m, args, below, meth, c, Q, D', cy', A⟩ := X
  obtain ⟨hx, hb, hml, hown, hts, hE, hA, rfl, rfl, rfl, rfl⟩ := hC
  intro H locs ls hz h1 h2 h3 h4
  exact lv_icmp_le hx hb hd ht (fun hc => kt hc H locs ls hz h1 h2 h3 h4) (fun hc => kf hc H locs ls hz h1 h2 h3 h4)
theorem g_tabIn (hC : fOK X cc nL own rm l D cy) {dflt lo hi : Int} {offs : Array Int} {len : Nat} {x : Int32} {off : Int} (tgt : Nat) (hd : decode cc pc = .ok (.tableswitch dflt lo hi offs, len)) (h9 : ¬ x.toInt < lo) (h8 : ¬ hi < x.toInt) (ho : offs[(x.toInt - lo).toNat]? = some off) (ht : (pc : Int) + off = (tgt : Int)) (k : gAt X cells slots nL w h E L st tgt) : gAt X cells slots nL w h E L (.int x :: st) pc := by
  obtain ⟨p, l', e, R, s, m, args, below, meth, c, Q, D', cy', A⟩ := X
  obtain ⟨hx, hb, hml, hown, hts, hE, hA, rfl, rfl, rfl, rfl⟩ := hC
  intro H locs ls hz h1 h2 h3 h4
  exact lv_tableIn hx hb hd h9 h8 ho ht (k H locs ls hz h1 h2 h3 h4)
theorem g_tabOut (hC : fOK X cc nL own rm l D cy) {dflt lo hi : Int} {offs : Array Int} {len : Nat} {x : Int32} (tgt : Nat) (hd : decode cc pc = .ok (.tableswitch dflt lo hi offs, len)) (h9 : x.toInt < lo ∨ hi < x.toInt) (ht : (pc : Int) + dflt = (tgt : Int)) (k : gAt X cells slots nL w h E L st tgt) : gAt X cells slots nL w h E L (.int x :: st) pc := by
  obtain ⟨p, l', e, R, s, m, args, below, meth, c, Q, D', cy', A⟩ := X
  obtain ⟨hx, hb, hml, hown, hts, hE, hA, rfl, rfl, rfl, rfl⟩ := hC
  intro H locs ls hz h1 h2 h3 h4
  exact lv_tableOut hx hb hd h9 ht (k H locs ls hz h1 h2 h3 h4)
theorem g_look (hC : fOK X cc nL own rm l D cy) {dflt : Int} {ps : Array (Int × Int)} {len : Nat} {x : Int32} {off : Int} (tgt : Nat) (hd : decode cc pc = .ok (.lookupswitch dflt ps, len)) (hp : (ps.toList.zip (ps.toList.drop 1)).all (fun (a, next) => a.1 < next.1) = true) (ho : Op.lookupswitch.offset ps.toList dflt x.toInt = off) (ht : (pc : Int) + off = (tgt : Int)) (k : gAt X cells slots nL w h E L st tgt) : gAt X cells slots nL w h E L (.int x :: st) pc := by
  obtain ⟨p, l', e, R, s, m, args, below, meth, c, Q, D', cy', A⟩ := X
  obtain ⟨hx, hb, hml, hown, hts, hE, hA, rfl, rfl, rfl, rfl⟩ := hC
  intro H locs ls hz h1 h2 h3 h4
  exact lv_lookup hx hb hd hp ho ht (k H locs ls hz h1 h2 h3 h4)
theorem g_sub {n : Nat} (ks : List Nat) {L' : List (Nat × Value)} (hl : lv_pick L ks = L') (k : gAt X cells slots n w h E L' st pc) : gAt X cells slots n w h E L st pc := by
  obtain ⟨p, l', e, R, s, m, args, below, meth, c, Q, D', cy', A⟩ := X
  intro H locs ls hz h1 h2 h3 h4
  exact k H locs ls hz h1 h2 h3 (lv_sub h4 ks hl)
theorem g_getI (hC : fOK X cc nL own rm l D cy) {C : String} {T : u_T} {N a i : Nat} (ci j cmp : Nat) (hc : fCl[ci]? = some (C, T, N)) (hj : j < N) (hin : ∀ w ∈ u_ws C T N, w ∈ lwA) (hq : Cond.fieldLink own i (T j).1 (T j).2.1 (T j).2.2.1 ∈ lwA) (hcm : 100 * ci + j = cmp) (hr : fRf ci j = false) (hk : w.1 a = ci + 1) (hd : decode cc pc = .ok (.getfield i, 3)) (k : gAt X cells slots nL w h E L (.int (gI w cmp a 0) :: st) (pc + 3)) : gAt X cells slots nL w h E L (.ref a :: st) pc := by
  obtain ⟨p, l', e, R, s, m, args, below, meth, c, Q, D', cy', A⟩ := X
  obtain ⟨hx, hb, hml, hown, hts, hE, hA, rfl, rfl, rfl, rfl⟩ := hC
  intro H locs ls hz h1 h2 h3 h4
  obtain ⟨hN, hci⟩ := fN_ok hc
  obtain ⟨cell, q1, q2, q3, q4⟩ := h1.ob hk hci
  obtain ⟨hS, hfc, kC, hkC, hkind⟩ := hE.1.1 ci _ hc
  obtain ⟨cf, kf, fi, f, hi, hsl⟩ := hS j hj
  refine W.getf hx hb hown (hts _ hq) hi (u_facts hfc hkC (u_lays hts hin hj) hi).1 q1 (by rw [q3]; exact fun h => by cases h) (v := .int (gI w cmp a 0)) ?_ rfl rfl hd (k H locs ls hz h1 h2 h3 h4)
  rw [hsl, q4 j (by rw [hN]; exact hj), fV_I hr hcm]
theorem g_getIN (hC : fOK X cc nL own rm l D cy) {C host : String} {T : u_T} {N a i : Nat} (ci j cmp : Nat) (hc : fCl[ci]? = some (C, T, N)) (hj : j < N) (hin : ∀ w ∈ u_ws C T N, w ∈ lwA) (hq : Cond.fieldLinkNest own i (T j).1 (T j).2.1 (T j).2.2.1 host ∈ lwN) (hcm : 100 * ci + j = cmp) (hr : fRf ci j = false) (hk : w.1 a = ci + 1) (hd : decode cc pc = .ok (.getfield i, 3)) (k : gAt X cells slots nL w h E L (.int (gI w cmp a 0) :: st) (pc + 3)) : gAt X cells slots nL w h E L (.ref a :: st) pc := by
  obtain ⟨p, l', e, R, s, m, args, below, meth, c, Q, D', cy', A⟩ := X
  obtain ⟨hx, hb, hml, hown, hts, hE, hA, rfl, rfl, rfl, rfl⟩ := hC
  intro H locs ls hz h1 h2 h3 h4
  obtain ⟨hN, hci⟩ := fN_ok hc
  obtain ⟨cell, q1, q2, q3, q4⟩ := h1.ob hk hci
  obtain ⟨hS, hfc, kC, hkC, hkind⟩ := hE.1.1 ci _ hc
  obtain ⟨cf, kf, fi, f, hi, hsl⟩ := hS j hj
  refine va_Wgetf hx hb hown (va_Nw.use rfl (hE.2.1 _ hq)) hi (u_facts hfc hkC (u_lays hts hin hj) hi).1 q1 (by rw [q3]; exact fun h => by cases h) (v := .int (gI w cmp a 0)) ?_ rfl rfl hd (k H locs ls hz h1 h2 h3 h4)
  rw [hsl, q4 j (by rw [hN]; exact hj), fV_I hr hcm]
theorem g_getR (hC : fOK X cc nL own rm l D cy) {C : String} {T : u_T} {N a i : Nat} (ci j cmp : Nat) (hc : fCl[ci]? = some (C, T, N)) (hj : j < N) (hin : ∀ w ∈ u_ws C T N, w ∈ lwA) (hq : Cond.fieldLink own i (T j).1 (T j).2.1 (T j).2.2.1 ∈ lwA) (hcm : 100 * ci + j = cmp) (hr : fRf ci j = true) (hk : w.1 a = ci + 1) (hd : decode cc pc = .ok (.getfield i, 3)) (k : gAt X cells slots nL w h E L (.ref (gR w cmp a 0) :: st) (pc + 3)) : gAt X cells slots nL w h E L (.ref a :: st) pc := by
  obtain ⟨p, l', e, R, s, m, args, below, meth, c, Q, D', cy', A⟩ := X
  obtain ⟨hx, hb, hml, hown, hts, hE, hA, rfl, rfl, rfl, rfl⟩ := hC
  intro H locs ls hz h1 h2 h3 h4
  obtain ⟨hN, hci⟩ := fN_ok hc
  obtain ⟨cell, q1, q2, q3, q4⟩ := h1.ob hk hci
  obtain ⟨hS, hfc, kC, hkC, hkind⟩ := hE.1.1 ci _ hc
  obtain ⟨cf, kf, fi, f, hi, hsl⟩ := hS j hj
  refine W.getf hx hb hown (hts _ hq) hi (u_facts hfc hkC (u_lays hts hin hj) hi).1 q1 (by rw [q3]; exact fun h => by cases h) (v := .ref (gR w cmp a 0)) ?_ rfl rfl hd (k H locs ls hz h1 h2 h3 h4)
  rw [hsl, q4 j (by rw [hN]; exact hj), fV_R hr hcm]
theorem g_getRN (hC : fOK X cc nL own rm l D cy) {C host : String} {T : u_T} {N a i : Nat} (ci j cmp : Nat) (hc : fCl[ci]? = some (C, T, N)) (hj : j < N) (hin : ∀ w ∈ u_ws C T N, w ∈ lwA) (hq : Cond.fieldLinkNest own i (T j).1 (T j).2.1 (T j).2.2.1 host ∈ lwN) (hcm : 100 * ci + j = cmp) (hr : fRf ci j = true) (hk : w.1 a = ci + 1) (hd : decode cc pc = .ok (.getfield i, 3)) (k : gAt X cells slots nL w h E L (.ref (gR w cmp a 0) :: st) (pc + 3)) : gAt X cells slots nL w h E L (.ref a :: st) pc := by
  obtain ⟨p, l', e, R, s, m, args, below, meth, c, Q, D', cy', A⟩ := X
  obtain ⟨hx, hb, hml, hown, hts, hE, hA, rfl, rfl, rfl, rfl⟩ := hC
  intro H locs ls hz h1 h2 h3 h4
  obtain ⟨hN, hci⟩ := fN_ok hc
  obtain ⟨cell, q1, q2, q3, q4⟩ := h1.ob hk hci
  obtain ⟨hS, hfc, kC, hkC, hkind⟩ := hE.1.1 ci _ hc
  obtain ⟨cf, kf, fi, f, hi, hsl⟩ := hS j hj
  refine va_Wgetf hx hb hown (va_Nw.use rfl (hE.2.1 _ hq)) hi (u_facts hfc hkC (u_lays hts hin hj) hi).1 q1 (by rw [q3]; exact fun h => by cases h) (v := .ref (gR w cmp a 0)) ?_ rfl rfl hd (k H locs ls hz h1 h2 h3 h4)
  rw [hsl, q4 j (by rw [hN]; exact hj), fV_R hr hcm]
theorem g_putI (hC : fOK X cc nL own rm l D cy) {C : String} {T : u_T} {N a i : Nat} {v : Int32} (ci j cmp : Nat) (hc : fCl[ci]? = some (C, T, N)) (hj : j < N) (hin : ∀ w ∈ u_ws C T N, w ∈ lwA) (ty0 : Nat → FieldType) (hty : ∀ k, k < N → parseFieldDescriptor (T k).2.2.1 = some (ty0 k)) (hnm : ∀ a, a < N → ∀ b, b < N → a ≠ b → (T a).2.1 ≠ (T b).2.1) (hq : Cond.fieldLink own i (T j).1 (T j).2.1 (T j).2.2.1 ∈ lwA) (hcm : 100 * ci + j = cmp) (hr : fRf ci j = false) (hfin : (T j).2.2.2 = false) (hn : narrow (ty0 j) (.int v) = .int v) (hfit : fits (ty0 j) (.int v) = true) (hk : w.1 a = ci + 1) (hd : decode cc pc = .ok (.putfield i, 3)) (k : gAt X cells slots nL (sI w cmp a 0 v) h E L st (pc + 3)) : gAt X cells slots nL w h E L (.int v :: .ref a :: st) pc := by
  obtain ⟨p, l', e, R, s, m, args, below, meth, c, Q, D', cy', A⟩ := X
  obtain ⟨hx, hb, hml, hown, hts, hE, hA, rfl, rfl, rfl, rfl⟩ := hC
  intro H locs ls hz h1 h2 h3 h4
  obtain ⟨hN, hci⟩ := fN_ok hc
  have hap := va_apart (own := own) hts hin ty0 hty hnm hE.1 hc
  obtain ⟨cell, q1, q2, q3, q4⟩ := h1.ob hk hci
  obtain ⟨hS, hfc, kC, hkC, hkind⟩ := hE.1.1 ci _ hc
  obtain ⟨cf, kf, fi, f, hi, hsl⟩ := hS j hj
  have hap' : ∀ a b, a < fN ci → b < fN ci → a ≠ b → D'.2 ci a ≠ D'.2 ci b := by rw [hN]; exact hap
  have hlay := hts _ (hin _ (u_in_lay hj))
  unfold u_lay at hlay
  rw [if_neg (by rw [hfin]; decide)] at hlay
  have hst := (u_facts hfc hkC (u_lays hts hin hj) hi).1
  have h6 := u_store hfc hkC hkind hlay hi (hty j hj) hn hfit
  refine W.putK hx hb (f := f) ⟨hown, hts _ hq, ⟨_, _, _, hi⟩, hst⟩ (by rw [q2]; exact h6) q1 q3 (by rw [hsl]; exact k2_hasslot (q4 j (by rw [hN]; exact hj))) rfl rfl hd (fun H' e1 e2 e3 => ?_)
  rw [hsl] at e1 ⊢
  have ha : A a := h2 a (by rw [hk]; omega)
  refine k H' _ ls (hz.put (w' := sI w cmp a 0 v) rfl (by rw [hk]; omega) e2 e3) (h1.put (w' := sI w cmp a 0 v) (a := a) rfl rfl (fun q c i hq => gI_n (fun z => hq z.2.1)) (fun q c i _ => rfl) e2 e3 (fat_ob hk hci ?_)) h2 (h3.put e2 e3 ha) h4
  refine t_OB.to (V := updV (fV w ci a) j (.int v)) ⟨_, e1, q2, q3, t_set q4 hap' (by rw [hN]; exact hj) _⟩ (fun j' hj' => ?_)
  subst hcm
  by_cases ej : j' = j
  · subst ej
    simp [updV, fV, hr, gI_s]
  · rw [show updV (fV w ci a) j (.int v) j' = fV w ci a j' from by simp [updV, ej]]
    unfold fV
    by_cases er : fRf ci j' = true
    · rw [if_pos er, if_pos er]
      rw [show gR (sI w (100 * ci + j) a 0 v) (100 * ci + j') a 0 = gR w (100 * ci + j') a 0 from rfl]
    · rw [if_neg er, if_neg er]
      rw [gI_n (fun z => ej (by omega))]
theorem g_putIN (hC : fOK X cc nL own rm l D cy) {C host : String} {T : u_T} {N a i : Nat} {v : Int32} (ci j cmp : Nat) (hc : fCl[ci]? = some (C, T, N)) (hj : j < N) (hin : ∀ w ∈ u_ws C T N, w ∈ lwA) (ty0 : Nat → FieldType) (hty : ∀ k, k < N → parseFieldDescriptor (T k).2.2.1 = some (ty0 k)) (hnm : ∀ a, a < N → ∀ b, b < N → a ≠ b → (T a).2.1 ≠ (T b).2.1) (hq : Cond.fieldLinkNest own i (T j).1 (T j).2.1 (T j).2.2.1 host ∈ lwN) (hcm : 100 * ci + j = cmp) (hr : fRf ci j = false) (hfin : (T j).2.2.2 = false) (hn : narrow (ty0 j) (.int v) = .int v) (hfit : fits (ty0 j) (.int v) = true) (hk : w.1 a = ci + 1) (hd : decode cc pc = .ok (.putfield i, 3)) (k : gAt X cells slots nL (sI w cmp a 0 v) h E L st (pc + 3)) : gAt X cells slots nL w h E L (.int v :: .ref a :: st) pc := by
  obtain ⟨p, l', e, R, s, m, args, below, meth, c, Q, D', cy', A⟩ := X
  obtain ⟨hx, hb, hml, hown, hts, hE, hA, rfl, rfl, rfl, rfl⟩ := hC
  intro H locs ls hz h1 h2 h3 h4
  obtain ⟨hN, hci⟩ := fN_ok hc
  have hap := va_apart (own := own) hts hin ty0 hty hnm hE.1 hc
  obtain ⟨cell, q1, q2, q3, q4⟩ := h1.ob hk hci
  obtain ⟨hS, hfc, kC, hkC, hkind⟩ := hE.1.1 ci _ hc
  obtain ⟨cf, kf, fi, f, hi, hsl⟩ := hS j hj
  have hap' : ∀ a b, a < fN ci → b < fN ci → a ≠ b → D'.2 ci a ≠ D'.2 ci b := by rw [hN]; exact hap
  have hlay := hts _ (hin _ (u_in_lay hj))
  unfold u_lay at hlay
  rw [if_neg (by rw [hfin]; decide)] at hlay
  have hst := (u_facts hfc hkC (u_lays hts hin hj) hi).1
  have h6 := u_store hfc hkC hkind hlay hi (hty j hj) hn hfit
  refine va_WputK hx hb (f := f) hown (va_Nw.use rfl (hE.2.1 _ hq)) hi hst (by rw [q2]; exact h6) q1 q3 (by rw [hsl]; exact k2_hasslot (q4 j (by rw [hN]; exact hj))) rfl rfl hd (fun H' e1 e2 e3 => ?_)
  rw [hsl] at e1 ⊢
  have ha : A a := h2 a (by rw [hk]; omega)
  refine k H' _ ls (hz.put (w' := sI w cmp a 0 v) rfl (by rw [hk]; omega) e2 e3) (h1.put (w' := sI w cmp a 0 v) (a := a) rfl rfl (fun q c i hq => gI_n (fun z => hq z.2.1)) (fun q c i _ => rfl) e2 e3 (fat_ob hk hci ?_)) h2 (h3.put e2 e3 ha) h4
  refine t_OB.to (V := updV (fV w ci a) j (.int v)) ⟨_, e1, q2, q3, t_set q4 hap' (by rw [hN]; exact hj) _⟩ (fun j' hj' => ?_)
  subst hcm
  by_cases ej : j' = j
  · subst ej
    simp [updV, fV, hr, gI_s]
  · rw [show updV (fV w ci a) j (.int v) j' = fV w ci a j' from by simp [updV, ej]]
    unfold fV
    by_cases er : fRf ci j' = true
    · rw [if_pos er, if_pos er]
      rw [show gR (sI w (100 * ci + j) a 0 v) (100 * ci + j') a 0 = gR w (100 * ci + j') a 0 from rfl]
    · rw [if_neg er, if_neg er]
      rw [gI_n (fun z => ej (by omega))]
theorem g_putR (hC : fOK X cc nL own rm l D cy) {C : String} {T : u_T} {N a i : Nat} {v : Nat} (ci j cmp : Nat) (hc : fCl[ci]? = some (C, T, N)) (hj : j < N) (hin : ∀ w ∈ u_ws C T N, w ∈ lwA) (ty0 : Nat → FieldType) (hty : ∀ k, k < N → parseFieldDescriptor (T k).2.2.1 = some (ty0 k)) (hnm : ∀ a, a < N → ∀ b, b < N → a ≠ b → (T a).2.1 ≠ (T b).2.1) (hq : Cond.fieldLink own i (T j).1 (T j).2.1 (T j).2.2.1 ∈ lwA) (hcm : 100 * ci + j = cmp) (hr : fRf ci j = true) (hfin : (T j).2.2.2 = false) (hn : narrow (ty0 j) (.ref v) = .ref v) (hfit : fits (ty0 j) (.ref v) = true) (hk : w.1 a = ci + 1) (hd : decode cc pc = .ok (.putfield i, 3)) (k : gAt X cells slots nL (sR w cmp a 0 v) h E L st (pc + 3)) : gAt X cells slots nL w h E L (.ref v :: .ref a :: st) pc := by
  obtain ⟨p, l', e, R, s, m, args, below, meth, c, Q, D', cy', A⟩ := X
  obtain ⟨hx, hb, hml, hown, hts, hE, hA, rfl, rfl, rfl, rfl⟩ := hC
  intro H locs ls hz h1 h2 h3 h4
  obtain ⟨hN, hci⟩ := fN_ok hc
  have hap := va_apart (own := own) hts hin ty0 hty hnm hE.1 hc
  obtain ⟨cell, q1, q2, q3, q4⟩ := h1.ob hk hci
  obtain ⟨hS, hfc, kC, hkC, hkind⟩ := hE.1.1 ci _ hc
  obtain ⟨cf, kf, fi, f, hi, hsl⟩ := hS j hj
  have hap' : ∀ a b, a < fN ci → b < fN ci → a ≠ b → D'.2 ci a ≠ D'.2 ci b := by rw [hN]; exact hap
  have hlay := hts _ (hin _ (u_in_lay hj))
  unfold u_lay at hlay
  rw [if_neg (by rw [hfin]; decide)] at hlay
  have hst := (u_facts hfc hkC (u_lays hts hin hj) hi).1
  have h6 := u_store hfc hkC hkind hlay hi (hty j hj) hn hfit
  refine W.putK hx hb (f := f) ⟨hown, hts _ hq, ⟨_, _, _, hi⟩, hst⟩ (by rw [q2]; exact h6) q1 q3 (by rw [hsl]; exact k2_hasslot (q4 j (by rw [hN]; exact hj))) rfl rfl hd (fun H' e1 e2 e3 => ?_)
  rw [hsl] at e1 ⊢
  have ha : A a := h2 a (by rw [hk]; omega)
  refine k H' _ ls (hz.put (w' := sR w cmp a 0 v) rfl (by rw [hk]; omega) e2 e3) (h1.put (w' := sR w cmp a 0 v) (a := a) rfl rfl (fun q c i _ => rfl) (fun q c i hq => gR_n (fun z => hq z.2.1)) e2 e3 (fat_ob hk hci ?_)) h2 (h3.put e2 e3 ha) h4
  refine t_OB.to (V := updV (fV w ci a) j (.ref v)) ⟨_, e1, q2, q3, t_set q4 hap' (by rw [hN]; exact hj) _⟩ (fun j' hj' => ?_)
  subst hcm
  by_cases ej : j' = j
  · subst ej
    simp [updV, fV, hr, gR_s]
  · rw [show updV (fV w ci a) j (.ref v) j' = fV w ci a j' from by simp [updV, ej]]
    unfold fV
    by_cases er : fRf ci j' = true
    · rw [if_pos er, if_pos er]
      rw [gR_n (fun z => ej (by omega))]
    · rw [if_neg er, if_neg er]
      rw [show gI (sR w (100 * ci + j) a 0 v) (100 * ci + j') a 0 = gI w (100 * ci + j') a 0 from rfl]
theorem g_putRN (hC : fOK X cc nL own rm l D cy) {C host : String} {T : u_T} {N a i : Nat} {v : Nat} (ci j cmp : Nat) (hc : fCl[ci]? = some (C, T, N)) (hj : j < N) (hin : ∀ w ∈ u_ws C T N, w ∈ lwA) (ty0 : Nat → FieldType) (hty : ∀ k, k < N → parseFieldDescriptor (T k).2.2.1 = some (ty0 k)) (hnm : ∀ a, a < N → ∀ b, b < N → a ≠ b → (T a).2.1 ≠ (T b).2.1) (hq : Cond.fieldLinkNest own i (T j).1 (T j).2.1 (T j).2.2.1 host ∈ lwN) (hcm : 100 * ci + j = cmp) (hr : fRf ci j = true) (hfin : (T j).2.2.2 = false) (hn : narrow (ty0 j) (.ref v) = .ref v) (hfit : fits (ty0 j) (.ref v) = true) (hk : w.1 a = ci + 1) (hd : decode cc pc = .ok (.putfield i, 3)) (k : gAt X cells slots nL (sR w cmp a 0 v) h E L st (pc + 3)) : gAt X cells slots nL w h E L (.ref v :: .ref a :: st) pc := by
  obtain ⟨p, l', e, R, s, m, args, below, meth, c, Q, D', cy', A⟩ := X
  obtain ⟨hx, hb, hml, hown, hts, hE, hA, rfl, rfl, rfl, rfl⟩ := hC
  intro H locs ls hz h1 h2 h3 h4
  obtain ⟨hN, hci⟩ := fN_ok hc
  have hap := va_apart (own := own) hts hin ty0 hty hnm hE.1 hc
  obtain ⟨cell, q1, q2, q3, q4⟩ := h1.ob hk hci
  obtain ⟨hS, hfc, kC, hkC, hkind⟩ := hE.1.1 ci _ hc
  obtain ⟨cf, kf, fi, f, hi, hsl⟩ := hS j hj
  have hap' : ∀ a b, a < fN ci → b < fN ci → a ≠ b → D'.2 ci a ≠ D'.2 ci b := by rw [hN]; exact hap
  have hlay := hts _ (hin _ (u_in_lay hj))
  unfold u_lay at hlay
  rw [if_neg (by rw [hfin]; decide)] at hlay
  have hst := (u_facts hfc hkC (u_lays hts hin hj) hi).1
  have h6 := u_store hfc hkC hkind hlay hi (hty j hj) hn hfit
  refine va_WputK hx hb (f := f) hown (va_Nw.use rfl (hE.2.1 _ hq)) hi hst (by rw [q2]; exact h6) q1 q3 (by rw [hsl]; exact k2_hasslot (q4 j (by rw [hN]; exact hj))) rfl rfl hd (fun H' e1 e2 e3 => ?_)
  rw [hsl] at e1 ⊢
  have ha : A a := h2 a (by rw [hk]; omega)
  refine k H' _ ls (hz.put (w' := sR w cmp a 0 v) rfl (by rw [hk]; omega) e2 e3) (h1.put (w' := sR w cmp a 0 v) (a := a) rfl rfl (fun q c i _ => rfl) (fun q c i hq => gR_n (fun z => hq z.2.1)) e2 e3 (fat_ob hk hci ?_)) h2 (h3.put e2 e3 ha) h4
  refine t_OB.to (V := updV (fV w ci a) j (.ref v)) ⟨_, e1, q2, q3, t_set q4 hap' (by rw [hN]; exact hj) _⟩ (fun j' hj' => ?_)
  subst hcm
  by_cases ej : j' = j
  · subst ej
    simp [updV, fV, hr, gR_s]
  · rw [show updV (fV w ci a) j (.ref v) j' = fV w ci a j' from by simp [updV, ej]]
    unfold fV
    by_cases er : fRf ci j' = true
    · rw [if_pos er, if_pos er]
      rw [gR_n (fun z => ej (by omega))]
    · rw [if_neg er, if_neg er]
      rw [show gI (sR w (100 * ci + j) a 0 v) (100 * ci + j') a 0 = gI w (100 * ci + j') a 0 from rfl]
theorem g_cald (hC : fOK X cc nL own rm l D cy) {a : Nat} {i : Int32} (hk : w.1 a = 10) (hin : vp_in i (w.2.1 a)) (hd : decode cc pc = .ok (.caload, 1)) (k : gAt X cells slots nL w h E L (.int (gI w 600 a i.toNatClampNeg) :: st) (pc + 1)) : gAt X cells slots nL w h E L (.int i :: .ref a :: st) pc := by
  obtain ⟨p, l', e, R, s, m, args, below, meth, c, Q, D', cy', A⟩ := X
  obtain ⟨hx, hb, hml, hown, hts, hE, hA, rfl, rfl, rfl, rfl⟩ := hC
  intro H locs ls hz h1 h2 h3 h4
  have hlt : i.toNatClampNeg < w.2.1 a := Nat.not_le.mp fun q => hin (Or.inr q)
  exact W.cald (v := .int (gI w 600 a i.toNatClampNeg)) hx hb ((h1.2 a).2.1 0 hk (by decide)) ((hE.1.2 0 _ rfl).1 _ _) (fun q => by cases q) (by show ¬ (i < 0 ∨ (arrV _ _ _).slots.size ≤ _); rw [arrV_size]; exact hin) (by show (arrV _ _ _).slots[_]? = _; rw [arrV_read _ _ hlt]) rfl rfl hd (k H locs ls hz h1 h2 h3 h4)
theorem g_iald (hC : fOK X cc nL own rm l D cy) {a : Nat} {i : Int32} (hk : w.1 a = 11) (hin : vp_in i (w.2.1 a)) (hd : decode cc pc = .ok (.iaload, 1)) (k : gAt X cells slots nL w h E L (.int (gI w 601 a i.toNatClampNeg) :: st) (pc + 1)) : gAt X cells slots nL w h E L (.int i :: .ref a :: st) pc := by
  obtain ⟨p, l', e, R, s, m, args, below, meth, c, Q, D', cy', A⟩ := X
  obtain ⟨hx, hb, hml, hown, hts, hE, hA, rfl, rfl, rfl, rfl⟩ := hC
  intro H locs ls hz h1 h2 h3 h4
  have hlt : i.toNatClampNeg < w.2.1 a := Nat.not_le.mp fun q => hin (Or.inr q)
  exact W.iald (v := .int (gI w 601 a i.toNatClampNeg)) hx hb ((h1.2 a).2.1 1 hk (by decide)) ((hE.1.2 1 _ rfl).1 _ _) (fun q => by cases q) (by show ¬ (i < 0 ∨ (arrV _ _ _).slots.size ≤ _); rw [arrV_size]; exact hin) (by show (arrV _ _ _).slots[_]? = _; rw [arrV_read _ _ hlt]) rfl rfl hd (k H locs ls hz h1 h2 h3 h4)
theorem g_zald (hC : fOK X cc nL own rm l D cy) {a : Nat} {i : Int32} (hk : w.1 a = 12) (hin : vp_in i (w.2.1 a)) (hd : decode cc pc = .ok (.baload, 1)) (k : gAt X cells slots nL w h E L (.int (gI w 602 a i.toNatClampNeg) :: st) (pc + 1)) : gAt X cells slots nL w h E L (.int i :: .ref a :: st) pc := by
  obtain ⟨p, l', e, R, s, m, args, below, meth, c, Q, D', cy', A⟩ := X
  obtain ⟨hx, hb, hml, hown, hts, hE, hA, rfl, rfl, rfl, rfl⟩ := hC
  intro H locs ls hz h1 h2 h3 h4
  have hlt : i.toNatClampNeg < w.2.1 a := Nat.not_le.mp fun q => hin (Or.inr q)
  exact W.zald (v := .int (gI w 602 a i.toNatClampNeg)) hx hb ((h1.2 a).2.1 2 hk (by decide)) ((hE.1.2 2 _ rfl).1 _ _) (fun q => by cases q) (by show ¬ (i < 0 ∨ (arrV _ _ _).slots.size ≤ _); rw [arrV_size]; exact hin) (by show (arrV _ _ _).slots[_]? = _; rw [arrV_read _ _ hlt]) rfl rfl hd (k H locs ls hz h1 h2 h3 h4)
theorem g_aald0 (hC : fOK X cc nL own rm l D cy) {a : Nat} {i : Int32} (hk : w.1 a = 13) (hin : vp_in i (w.2.1 a)) (hd : decode cc pc = .ok (.aaload, 1)) (k : gAt X cells slots nL w h E L (.ref (gR w 603 a i.toNatClampNeg) :: st) (pc + 1)) : gAt X cells slots nL w h E L (.int i :: .ref a :: st) pc := by
  obtain ⟨p, l', e, R, s, m, args, below, meth, c, Q, D', cy', A⟩ := X
  obtain ⟨hx, hb, hml, hown, hts, hE, hA, rfl, rfl, rfl, rfl⟩ := hC
  intro H locs ls hz h1 h2 h3 h4
  have hlt : i.toNatClampNeg < w.2.1 a := Nat.not_le.mp fun q => hin (Or.inr q)
  exact W.aald (v := .ref (gR w 603 a i.toNatClampNeg)) (ty := .object RX1) hx hb ((h1.2 a).2.2 0 hk (by decide)) ((hE.1.2 3 _ rfl).1 _ _) rfl (fun q => by cases q) (by show ¬ (i < 0 ∨ (arrV _ _ _).slots.size ≤ _); rw [arrV_size]; exact hin) (by show (arrV _ _ _).slots[_]? = _; rw [arrV_read _ _ hlt]) rfl rfl hd (k H locs ls hz h1 h2 h3 h4)
theorem g_aald1 (hC : fOK X cc nL own rm l D cy) {a : Nat} {i : Int32} (hk : w.1 a = 14) (hin : vp_in i (w.2.1 a)) (hd : decode cc pc = .ok (.aaload, 1)) (k : gAt X cells slots nL w h E L (.ref (gR w 604 a i.toNatClampNeg) :: st) (pc + 1)) : gAt X cells slots nL w h E L (.int i :: .ref a :: st) pc := by
  obtain ⟨p, l', e, R, s, m, args, below, meth, c, Q, D', cy', A⟩ := X
  obtain ⟨hx, hb, hml, hown, hts, hE, hA, rfl, rfl, rfl, rfl⟩ := hC
  intro H locs ls hz h1 h2 h3 h4
  have hlt : i.toNatClampNeg < w.2.1 a := Nat.not_le.mp fun q => hin (Or.inr q)
  exact W.aald (v := .ref (gR w 604 a i.toNatClampNeg)) (ty := .object RX2) hx hb ((h1.2 a).2.2 1 hk (by decide)) ((hE.1.2 4 _ rfl).1 _ _) rfl (fun q => by cases q) (by show ¬ (i < 0 ∨ (arrV _ _ _).slots.size ≤ _); rw [arrV_size]; exact hin) (by show (arrV _ _ _).slots[_]? = _; rw [arrV_read _ _ hlt]) rfl rfl hd (k H locs ls hz h1 h2 h3 h4)
theorem g_cast (hC : fOK X cc nL own rm l D cy) {a : Nat} {i x : Int32} (hx9 : fch x = x) (hk : w.1 a = 10) (hin : vp_in i (w.2.1 a)) (hd : decode cc pc = .ok (.castore, 1)) (k : gAt X cells slots nL (sI w 600 a i.toNatClampNeg x) h E L st (pc + 1)) : gAt X cells slots nL w h E L (.int x :: .int i :: .ref a :: st) pc := by
  obtain ⟨p, l', e, R, s, m, args, below, meth, c, Q, D', cy', A⟩ := X
  obtain ⟨hx, hb, hml, hown, hts, hE, hA, rfl, rfl, rfl, rfl⟩ := hC
  intro H locs ls hz h1 h2 h3 h4
  refine W.cast hx hb ((h1.2 a).2.1 0 hk (by decide)) ((hE.1.2 0 _ rfl).1 _ _) (fun q => by cases q) (by show ¬ (i < 0 ∨ (arrV _ _ _).slots.size ≤ _); rw [arrV_size]; exact hin) rfl rfl hd fun H1 e9 z oq => ?_
  have ha : A a := h2 a (by rw [hk]; decide)
  refine k H1 _ ls (hz.put (w' := sI w 600 a i.toNatClampNeg x) rfl (by rw [hk]; decide) z oq) (h1.put (w' := sI w 600 a i.toNatClampNeg x) (a := a) rfl rfl (fun q c i hq => gI_n (fun z => hq z.2.1)) (fun q c i _ => rfl) z oq (fat_ai (j := 0) hk (by decide) ?_)) h2 (h3.put z oq ha) h4
  show H1[a]? = some (arrV _ _ _)
  rw [e9, arrV_store]
  congr 2
  funext q
  by_cases hq : q = i.toNatClampNeg
  · subst hq
    simp [updV, gI_s, nar_c hx9]
  · simp only [updV, if_neg hq]
    rw [gI_n (fun z => hq z.2.2)]
theorem g_iast (hC : fOK X cc nL own rm l D cy) {a : Nat} {i x : Int32} (hk : w.1 a = 11) (hin : vp_in i (w.2.1 a)) (hd : decode cc pc = .ok (.iastore, 1)) (k : gAt X cells slots nL (sI w 601 a i.toNatClampNeg x) h E L st (pc + 1)) : gAt X cells slots nL w h E L (.int x :: .int i :: .ref a :: st) pc := by
  obtain ⟨p, l', e, R, s, m, args, below, meth, c, Q, D', cy', A⟩ := X
  obtain ⟨hx, hb, hml, hown, hts, hE, hA, rfl, rfl, rfl, rfl⟩ := hC
  intro H locs ls hz h1 h2 h3 h4
  refine W.iast hx hb ((h1.2 a).2.1 1 hk (by decide)) ((hE.1.2 1 _ rfl).1 _ _) (fun q => by cases q) (by show ¬ (i < 0 ∨ (arrV _ _ _).slots.size ≤ _); rw [arrV_size]; exact hin) rfl rfl hd fun H1 e9 z oq => ?_
  have ha : A a := h2 a (by rw [hk]; decide)
  refine k H1 _ ls (hz.put (w' := sI w 601 a i.toNatClampNeg x) rfl (by rw [hk]; decide) z oq) (h1.put (w' := sI w 601 a i.toNatClampNeg x) (a := a) rfl rfl (fun q c i hq => gI_n (fun z => hq z.2.1)) (fun q c i _ => rfl) z oq (fat_ai (j := 1) hk (by decide) ?_)) h2 (h3.put z oq ha) h4
  show H1[a]? = some (arrV _ _ _)
  rw [e9, arrV_store]
  congr 2
  funext q
  by_cases hq : q = i.toNatClampNeg
  · subst hq
    simp [updV, gI_s]
  · simp only [updV, if_neg hq]
    rw [gI_n (fun z => hq z.2.2)]
theorem g_zast (hC : fOK X cc nL own rm l D cy) {a : Nat} {i x : Int32} (hx9 : x = 0 ∨ x = 1) (hk : w.1 a = 12) (hin : vp_in i (w.2.1 a)) (hd : decode cc pc = .ok (.bastore, 1)) (k : gAt X cells slots nL (sI w 602 a i.toNatClampNeg x) h E L st (pc + 1)) : gAt X cells slots nL w h E L (.int x :: .int i :: .ref a :: st) pc := by
  obtain ⟨p, l', e, R, s, m, args, below, meth, c, Q, D', cy', A⟩ := X
  obtain ⟨hx, hb, hml, hown, hts, hE, hA, rfl, rfl, rfl, rfl⟩ := hC
  intro H locs ls hz h1 h2 h3 h4
  refine W.zast hx hb ((h1.2 a).2.1 2 hk (by decide)) ((hE.1.2 2 _ rfl).1 _ _) (fun q => by cases q) (by show ¬ (i < 0 ∨ (arrV _ _ _).slots.size ≤ _); rw [arrV_size]; exact hin) rfl rfl hd fun H1 e9 z oq => ?_
  have ha : A a := h2 a (by rw [hk]; decide)
  refine k H1 _ ls (hz.put (w' := sI w 602 a i.toNatClampNeg x) rfl (by rw [hk]; decide) z oq) (h1.put (w' := sI w 602 a i.toNatClampNeg x) (a := a) rfl rfl (fun q c i hq => gI_n (fun z => hq z.2.1)) (fun q c i _ => rfl) z oq (fat_ai (j := 2) hk (by decide) ?_)) h2 (h3.put z oq ha) h4
  show H1[a]? = some (arrV _ _ _)
  rw [e9, arrV_store]
  congr 2
  funext q
  by_cases hq : q = i.toNatClampNeg
  · subst hq
    simp [updV, gI_s, nar_z hx9]
  · simp only [updV, if_neg hq]
    rw [gI_n (fun z => hq z.2.2)]
theorem g_aast0 (hC : fOK X cc nL own rm l D cy) {a v : Nat} {i : Int32} (hk : w.1 a = 13) (hv : w.1 v = 2) (hin : vp_in i (w.2.1 a)) (hd : decode cc pc = .ok (.aastore, 1)) (k : gAt X cells slots nL (sR w 603 a i.toNatClampNeg v) h E L st (pc + 1)) : gAt X cells slots nL w h E L (.ref v :: .int i :: .ref a :: st) pc := by
  obtain ⟨p, l', e, R, s, m, args, below, meth, c, Q, D', cy', A⟩ := X
  obtain ⟨hx, hb, hml, hown, hts, hE, hA, rfl, rfl, rfl, rfl⟩ := hC
  intro H locs ls hz h1 h2 h3 h4
  have hlt : i.toNatClampNeg < w.2.1 a := Nat.not_le.mp fun q => hin (Or.inr q)
  have h0 : ¬ i < 0 := fun q => hin (Or.inl q)
  obtain ⟨cellV, g1, g2, g3, -⟩ := h1.ob (ci := 1) hv (by decide)
  have hcls := (hE.1.1 1 _ rfl).2
  obtain ⟨kA, comp, k1, k2, k3, -⟩ := (hE.1.2 3 _ rfl).2
  have hcomp : comp = D'.1 1 := Option.some.inj (k3.symm.trans hcls.1)
  subst hcomp
  obtain ⟨kC, hkC, -⟩ := hcls.2
  have ha : A a := h2 a (by rw [hk]; decide)
  refine W.aast hx hb ((h1.2 a).2.2 0 hk (by decide)) (fun q h => by cases h) (fun h => by cases h) k1 k2 rfl hkC ⟨h0, by show _ < (arrV _ _ _).slots.size; rw [arrV_size]; exact hlt⟩ g1 (fun q h => by rw [g3] at h; cases h) (by rw [g2]; exact hkC) (by rw [g2]; exact va_assign hcls) rfl rfl hd fun H1 e9 z oq => ?_
  refine k H1 _ ls (hz.put (w' := sR w 603 a i.toNatClampNeg v) rfl (by rw [hk]; decide) z oq) (h1.put (w' := sR w 603 a i.toNatClampNeg v) (a := a) rfl rfl (fun q c i _ => rfl) (fun q c i hq => gR_n (fun z => hq z.2.1)) z oq (fat_ar (j := 0) hk (by decide) ?_)) h2 (h3.put z oq ha) h4
  show H1[a]? = some (arrV _ _ _)
  rw [e9, arrV_store]
  congr 2
  funext q
  by_cases hq : q = i.toNatClampNeg
  · subst hq
    simp [updV, gR_s]
  · simp only [updV, if_neg hq]
    rw [gR_n (fun z => hq z.2.2)]
theorem g_aast1 (hC : fOK X cc nL own rm l D cy) {a v : Nat} {i : Int32} (hk : w.1 a = 14) (hv : w.1 v = 3) (hin : vp_in i (w.2.1 a)) (hd : decode cc pc = .ok (.aastore, 1)) (k : gAt X cells slots nL (sR w 604 a i.toNatClampNeg v) h E L st (pc + 1)) : gAt X cells slots nL w h E L (.ref v :: .int i :: .ref a :: st) pc := by
  obtain ⟨p, l', e, R, s, m, args, below, meth, c, Q, D', cy', A⟩ := X
  obtain ⟨hx, hb, hml, hown, hts, hE, hA, rfl, rfl, rfl, rfl⟩ := hC
  intro H locs ls hz h1 h2 h3 h4
  have hlt : i.toNatClampNeg < w.2.1 a := Nat.not_le.mp fun q => hin (Or.inr q)
  have h0 : ¬ i < 0 := fun q => hin (Or.inl q)
  obtain ⟨cellV, g1, g2, g3, -⟩ := h1.ob (ci := 2) hv (by decide)
  have hcls := (hE.1.1 2 _ rfl).2
  obtain ⟨kA, comp, k1, k2, k3, -⟩ := (hE.1.2 4 _ rfl).2
  have hcomp : comp = D'.1 2 := Option.some.inj (k3.symm.trans hcls.1)
  subst hcomp
  obtain ⟨kC, hkC, -⟩ := hcls.2
  have ha : A a := h2 a (by rw [hk]; decide)
  refine W.aast hx hb ((h1.2 a).2.2 1 hk (by decide)) (fun q h => by cases h) (fun h => by cases h) k1 k2 rfl hkC ⟨h0, by show _ < (arrV _ _ _).slots.size; rw [arrV_size]; exact hlt⟩ g1 (fun q h => by rw [g3] at h; cases h) (by rw [g2]; exact hkC) (by rw [g2]; exact va_assign hcls) rfl rfl hd fun H1 e9 z oq => ?_
  refine k H1 _ ls (hz.put (w' := sR w 604 a i.toNatClampNeg v) rfl (by rw [hk]; decide) z oq) (h1.put (w' := sR w 604 a i.toNatClampNeg v) (a := a) rfl rfl (fun q c i _ => rfl) (fun q c i hq => gR_n (fun z => hq z.2.1)) z oq (fat_ar (j := 1) hk (by decide) ?_)) h2 (h3.put z oq ha) h4
  show H1[a]? = some (arrV _ _ _)
  rw [e9, arrV_store]
  congr 2
  funext q
  by_cases hq : q = i.toNatClampNeg
  · subst hq
    simp [updV, gR_s]
  · simp only [updV, if_neg hq]
    rw [gR_n (fun z => hq z.2.2)]
theorem g_objInit (hC : fOK X cc nL own rm l D cy) {idx a : Nat} (hlink : Cond.methodLink own idx Lib.objectInit ∈ lwA) (hinst : Cond.instanceMethod Lib.objectInit ∈ lwA) (hcode : Cond.code Lib.objectInit ⟨#[0xb1]⟩ 1 none ∈ lwA) (hR : 1 ≤ rm.frames ∧ 20 ≤ rm.locals) (hcat : (st.map fun v => v.category).sum ≤ 8) (hd : decode cc pc = .ok (.invokespecial idx, 3)) (k : gAt X cells slots nL w h E L st (pc + 3)) : gAt X cells slots nL w h E L (.ref a :: st) pc := by
  obtain ⟨p, l', e, R, s, m, args, below, meth, c, Q, D', cy', A⟩ := X
  obtain ⟨hx, hb, hml, hown, hts, hE, hA, rfl, rfl, rfl, rfl⟩ := hC
  intro H locs ls hz h1 h2 h3 h4
  refine W.objInit hx hb hown (hts _ hlink) (hts _ hinst) (hts _ hcode) rfl (h4.1.trans hml.symm) rfl hd hR.1 ?_ (k H locs ls hz h1 h2 h3 h4)
  have h9 : (F0 m pc ls (.ref a :: st)).monitorRoom = 0 := rfl
  have h8 : (R.locals : Nat) ≥ 20 := hR.2
  show 2 * (F0 m pc ls (.ref a :: st)).monitorRoom + (st.map fun v => v.category).sum + 12 ≤ R.locals
  rw [h9]
  omega
theorem g_getE (hC : fOK X cc nL own rm l D cy) {C : String} {T : u_T} {N a i : Nat} {V : Nat → Value} {v : Value} (ci j : Nat) (hc : fCl[ci]? = some (C, T, N)) (hj : j < N) (hin : ∀ w ∈ u_ws C T N, w ∈ lwA) (hq : Cond.fieldLink own i (T j).1 (T j).2.1 (T j).2.2.1 ∈ lwA) (he : E a = some (.inr (ci, V))) (hv : V j = v) (hd : decode cc pc = .ok (.getfield i, 3)) (k : gAt X cells slots nL w h E L (v :: st) (pc + 3)) : gAt X cells slots nL w h E L (.ref a :: st) pc := by
  obtain ⟨p, l', e, R, s, m, args, below, meth, c, Q, D', cy', A⟩ := X
  obtain ⟨hx, hb, hml, hown, hts, hE, hA, rfl, rfl, rfl, rfl⟩ := hC
  intro H locs ls hz h1 h2 h3 h4
  obtain ⟨hN, hci⟩ := fN_ok hc
  obtain ⟨cell, q1, q2, q3, q4⟩ := (hz.2 a _ he).2.2.2
  obtain ⟨hS, hfc, kC, hkC, hkind⟩ := hE.1.1 ci _ hc
  obtain ⟨cf, kf, fi, f, hi, hsl⟩ := hS j hj
  refine W.getf hx hb hown (hts _ hq) hi (u_facts hfc hkC (u_lays hts hin hj) hi).1 q1 (by rw [q3]; exact fun h => by cases h) (v := v) ?_ rfl rfl hd (k H locs ls hz h1 h2 h3 h4)
  rw [hsl, q4 j (by rw [hN]; exact hj), hv]
theorem g_putE (hC : fOK X cc nL own rm l D cy) {C : String} {T : u_T} {N a i : Nat} {V : Nat → Value} {v : Value} (ci j : Nat) (hc : fCl[ci]? = some (C, T, N)) (hj : j < N) (hin : ∀ w ∈ u_ws C T N, w ∈ lwA) (ty0 : Nat → FieldType) (hty : ∀ k, k < N → parseFieldDescriptor (T k).2.2.1 = some (ty0 k)) (hnm : ∀ a, a < N → ∀ b, b < N → a ≠ b → (T a).2.1 ≠ (T b).2.1) (hq : Cond.fieldLink own i (T j).1 (T j).2.1 (T j).2.2.1 ∈ lwA) (hfin : (T j).2.2.2 = false) (hn : narrow (ty0 j) v = v) (hfit : fits (ty0 j) v = true) (he : E a = some (.inr (ci, V))) (hd : decode cc pc = .ok (.putfield i, 3)) (k : gAt X cells slots nL w h (gUp E a (some (.inr (ci, updV V j v)))) L st (pc + 3)) : gAt X cells slots nL w h E L (v :: .ref a :: st) pc := by
  obtain ⟨p, l', e, R, s, m, args, below, meth, c, Q, D', cy', A⟩ := X
  obtain ⟨hx, hb, hml, hown, hts, hE, hA, rfl, rfl, rfl, rfl⟩ := hC
  intro H locs ls hz h1 h2 h3 h4
  obtain ⟨hN, hci⟩ := fN_ok hc
  have hap := va_apart (own := own) hts hin ty0 hty hnm hE.1 hc
  have hap' : ∀ a b, a < fN ci → b < fN ci → a ≠ b → D'.2 ci a ≠ D'.2 ci b := by rw [hN]; exact hap
  have hg := hz.2 a _ he
  obtain ⟨cell, q1, q2, q3, q4⟩ := hg.2.2.2
  obtain ⟨hS, hfc, kC, hkC, hkind⟩ := hE.1.1 ci _ hc
  obtain ⟨cf, kf, fi, f, hi, hsl⟩ := hS j hj
  have hlay := hts _ (hin _ (u_in_lay hj))
  unfold u_lay at hlay
  rw [if_neg (by rw [hfin]; decide)] at hlay
  have hst := (u_facts hfc hkC (u_lays hts hin hj) hi).1
  have h6 := u_store hfc hkC hkind hlay hi (hty j hj) hn hfit
  refine W.putK hx hb (f := f) ⟨hown, hts _ hq, ⟨_, _, _, hi⟩, hst⟩ (by rw [q2]; exact h6) q1 q3 (by rw [hsl]; exact k2_hasslot (q4 j (by rw [hN]; exact hj))) rfl rfl hd (fun H' e1 e2 e3 => ?_)
  rw [hsl] at e1 ⊢
  refine k H' _ ls (hz.pin he e2 e3 ?_) (h1.off hg.1 (Nat.le_of_eq e2.symm) (fun q _ hq => e3 q hq)) h2 (h3.put e2 e3 hg.2.1) h4
  exact ⟨_, e1, q2, q3, t_set q4 hap' (by rw [hN]; exact hj) _⟩
theorem g_putEF (hC : fOK X cc nL own rm l D cy) (hNm : gNm X) {C : String} {T : u_T} {N a i : Nat} {V : Nat → Value} {v : Value} (ci j : Nat) (hc : fCl[ci]? = some (C, T, N)) (hj : j < N) (hin : ∀ w ∈ u_ws C T N, w ∈ lwA) (ty0 : Nat → FieldType) (hty : ∀ k, k < N → parseFieldDescriptor (T k).2.2.1 = some (ty0 k)) (hnm : ∀ a, a < N → ∀ b, b < N → a ≠ b → (T a).2.1 ≠ (T b).2.1) (hq : Cond.fieldLink own i (T j).1 (T j).2.1 (T j).2.2.1 ∈ lwA) (hfin : (T j).2.2.2 = true) (hdecl : (T j).1 = own) (hn : narrow (ty0 j) v = v) (hfit : fits (ty0 j) v = true) (he : E a = some (.inr (ci, V))) (hd : decode cc pc = .ok (.putfield i, 3)) (k : gAt X cells slots nL w h (gUp E a (some (.inr (ci, updV V j v)))) L st (pc + 3)) : gAt X cells slots nL w h E L (v :: .ref a :: st) pc := by
  obtain ⟨p, l', e, R, s, m, args, below, meth, c, Q, D', cy', A⟩ := X
  obtain ⟨hx, hb, hml, hown, hts, hE, hA, rfl, rfl, rfl, rfl⟩ := hC
  intro H locs ls hz h1 h2 h3 h4
  obtain ⟨hN, hci⟩ := fN_ok hc
  have hap := va_apart (own := own) hts hin ty0 hty hnm hE.1 hc
  have hap' : ∀ a b, a < fN ci → b < fN ci → a ≠ b → D'.2 ci a ≠ D'.2 ci b := by rw [hN]; exact hap
  have hg := hz.2 a _ he
  obtain ⟨cell, q1, q2, q3, q4⟩ := hg.2.2.2
  obtain ⟨hS, hfc, kC, hkC, hkind⟩ := hE.1.1 ci _ hc
  obtain ⟨cf, kf, fi, f, hi, hsl⟩ := hS j hj
  have hlay := hts _ (hin _ (u_in_lay hj))
  unfold u_lay at hlay
  rw [if_pos hfin] at hlay
  have hst := (u_facts hfc hkC (u_lays hts hin hj) hi).1
  have hcf : m.cls = cf := by
    obtain ⟨_, _, c', _, _, _, -, -, hf', -, -, -, hown2, -⟩ := Cond.laysFinal_spec hlay
    have e1 : c' = cf := by have := hi.symm.trans hf'; simp at this; exact this.1.symm
    rw [hdecl] at hown2
    rw [← e1]; exact Option.some.inj (hown.symm.trans hown2)
  have h6 := u_fits hfc hkC hkind (Or.inr hlay) hi (hty j hj) hn hfit
  refine W.putFinK hx hb hown (hts _ hq) hi hst hcf hNm (by rw [q2]; exact h6) q1 q3 (by rw [hsl]; exact k2_hasslot (q4 j (by rw [hN]; exact hj))) rfl rfl hd (fun H' e1 e2 e3 => ?_)
  rw [hsl] at e1 ⊢
  refine k H' _ ls (hz.pin he e2 e3 ?_) (h1.off hg.1 (Nat.le_of_eq e2.symm) (fun q _ hq => e3 q hq)) h2 (h3.put e2 e3 hg.2.1) h4
  exact ⟨_, e1, q2, q3, t_set q4 hap' (by rw [hN]; exact hj) _⟩
theorem g_new (hC : fOK X cc nL own rm l D cy) {C : String} {T : u_T} {N i : Nat} (ci : Nat) (hc : fCl[ci]? = some (C, T, N)) (hin : ∀ w ∈ u_ws C T N, w ∈ lwA) (ty0 : Nat → FieldType) (hty : ∀ k, k < N → parseFieldDescriptor (T k).2.2.1 = some (ty0 k)) (hcl : Cond.classLink own i C ∈ lwA) (hinst : Cond.instantiable C N ∈ lwA) (hini : Cond.initialized C ∈ lwA) (hdef : ∀ j, j < N → defaultValue (ty0 j) = gZ ci j) (hcs : cells + 1 ≤ rm.cells ∧ slots + N ≤ rm.slots) (hd : decode cc pc = .ok (.new i, 3)) (k : w.1 h = 0 → E h = none → gAt X (cells + 1) (slots + N) nL w (h + 1) (gUp E h (some (.inr (ci, gZ ci)))) L (.ref h :: st) (pc + 3)) : gAt X cells slots nL w h E L st pc := by
  obtain ⟨p, l', e, R, s, m, args, below, meth, c, Q, D', cy', A⟩ := X
  obtain ⟨hx, hb, hml, hown, hts, hE, hA, rfl, rfl, rfl, rfl⟩ := hC
  intro H locs ls hz h1 h2 h3 h4
  obtain ⟨hN, hci⟩ := fN_ok hc
  have hKn := hE.1.1 ci _ hc
  have hz1 := hz.1
  subst hz1
  have hw0 : w.1 H.size = 0 := by
    by_cases e : w.1 H.size = 0
    · exact e
    · exact absurd (h1.1 _ e) (Nat.lt_irrefl _)
  have hE0 : E H.size = none := by
    cases e : E H.size with
    | none => rfl
    | some x => exact absurd (hz.2 _ _ e).2.2.1 (Nat.lt_irrefl _)
  refine W.newcK hx hb hown (hts _ hcl) (hts _ hinst) (hts _ hini) rfl hd hcs.1 hcs.2 hKn.2.1 rfl fun H1 kC hkC e1 z1 o1 => ?_
  refine k hw0 hE0 H1 locs ls ⟨z1, fun a x hx9 => ?_⟩ (h1.off hw0 (by omega) (fun q hq _ => o1 q hq)) h2 ⟨Nat.le_trans h3.1 (by omega), fun x hx1 hx2 => (o1 x (Nat.lt_of_lt_of_le hx1 h3.1)).trans (h3.2.1 x hx1 hx2), h3.2.2⟩ h4
  by_cases e : a = H.size
  · subst e
    rw [gUp_s] at hx9
    cases hx9
    refine ⟨hw0, hA _ h3.1, by omega, ?_⟩
    show t_OB _ _ _ _ _ _
    rw [hN]
    exact (u_born ty0 hts hin hKn hkC e1 hty).to hdef
  · rw [gUp_n e] at hx9
    have hg := hz.2 a x hx9
    exact ⟨hg.1, hg.2.1, by have := hg.2.2.1; omega, hg.2.2.2.kept (o1 a hg.2.2.1)⟩
theorem g_newaC (hC : fOK X cc nL own rm l D cy) {n : Int32} {N' : Nat} (harr : Cond.arrayClass .char ∈ lwA) (hn : ¬ n < 0) (hN : n.toNatClampNeg = N') (hbytes : N' * 4 ≤ 536870912) (hcs : cells + 1 ≤ rm.cells ∧ slots + N' ≤ rm.slots) (hd : decode cc pc = .ok (.newarray .char, 2)) (k : w.1 h = 0 → gAt X (cells + 1) (slots + N') nL (nA w h 10 N') (h + 1) E L (.ref h :: st) (pc + 2)) : gAt X cells slots nL w h E L (.int n :: st) pc := by
  obtain ⟨p, l', e, R, s, m, args, below, meth, c, Q, D', cy', A⟩ := X
  obtain ⟨hx, hb, hml, hown, hts, hE, hA, rfl, rfl, rfl, rfl⟩ := hC
  intro H locs ls hz h1 h2 h3 h4
  have hz1 := hz.1
  subst hz1
  have hw0 : w.1 H.size = 0 := by
    by_cases e : w.1 H.size = 0
    · exact e
    · exact absurd (h1.1 _ e) (Nat.lt_irrefl _)
  refine va_newaK (atype := .char) hx hb (hts _ harr) rfl hd rfl hn hN (Nat.le_trans (Nat.mul_le_mul_left _ (by decide)) hbytes) hcs.1 hcs.2 rfl fun H1 cA e1 z1 o1 hAr hNm => ?_
  have hcA : cA = cy' 0 := Option.some.inj (hNm.symm.trans ((hE.1.2 0 _ rfl).2 : s.vm.findClass _ = some _))
  subst hcA
  refine k hw0 H1 locs ls ⟨z1, fun a x hx9 => ?_⟩ ((h1.off hw0 (by omega) (fun q hq _ => o1 q hq)).take (gOff.nA w H.size 10 N') (by omega) (fat_ai (j := 0) (nA_k _ _ _ _) (by decide) ?_)) (fun q hq => ?_) ⟨Nat.le_trans h3.1 (by omega), fun x hx1 hx2 => (o1 x (Nat.lt_of_lt_of_le hx1 h3.1)).trans (h3.2.1 x hx1 hx2), h3.2.2⟩ h4
  · have hg := hz.2 a x hx9
    have e : ¬ a = H.size := by have := hg.2.2.1; omega
    exact ⟨(nA_k' e).trans hg.1, hg.2.1, by have := hg.2.2.1; omega, hg.2.2.2.kept (o1 a hg.2.2.1)⟩
  · rw [nA_l, e1]
    congr 2
    funext i
    rw [nA_I]
    rfl
  · by_cases e : q = H.size
    · rw [e]; exact hA _ h3.1
    · exact h2 q (by rw [← nA_k' (k := 10) (n := N') e]; exact hq)
theorem g_newaI (hC : fOK X cc nL own rm l D cy) {n : Int32} {N' : Nat} (harr : Cond.arrayClass .int ∈ lwA) (hn : ¬ n < 0) (hN : n.toNatClampNeg = N') (hbytes : N' * 4 ≤ 536870912) (hcs : cells + 1 ≤ rm.cells ∧ slots + N' ≤ rm.slots) (hd : decode cc pc = .ok (.newarray .int, 2)) (k : w.1 h = 0 → gAt X (cells + 1) (slots + N') nL (nA w h 11 N') (h + 1) E L (.ref h :: st) (pc + 2)) : gAt X cells slots nL w h E L (.int n :: st) pc := by
  obtain ⟨p, l', e, R, s, m, args, below, meth, c, Q, D', cy', A⟩ := X
  obtain ⟨hx, hb, hml, hown, hts, hE, hA, rfl, rfl, rfl, rfl⟩ := hC
  intro H locs ls hz h1 h2 h3 h4
  have hz1 := hz.1
  subst hz1
  have hw0 : w.1 H.size = 0 := by
    by_cases e : w.1 H.size = 0
    · exact e
    · exact absurd (h1.1 _ e) (Nat.lt_irrefl _)
  refine va_newaK (atype := .int) hx hb (hts _ harr) rfl hd rfl hn hN (Nat.le_trans (Nat.mul_le_mul_left _ (by decide)) hbytes) hcs.1 hcs.2 rfl fun H1 cA e1 z1 o1 hAr hNm => ?_
  have hcA : cA = cy' 1 := Option.some.inj (hNm.symm.trans ((hE.1.2 1 _ rfl).2 : s.vm.findClass _ = some _))
  subst hcA
  refine k hw0 H1 locs ls ⟨z1, fun a x hx9 => ?_⟩ ((h1.off hw0 (by omega) (fun q hq _ => o1 q hq)).take (gOff.nA w H.size 11 N') (by omega) (fat_ai (j := 1) (nA_k _ _ _ _) (by decide) ?_)) (fun q hq => ?_) ⟨Nat.le_trans h3.1 (by omega), fun x hx1 hx2 => (o1 x (Nat.lt_of_lt_of_le hx1 h3.1)).trans (h3.2.1 x hx1 hx2), h3.2.2⟩ h4
  · have hg := hz.2 a x hx9
    have e : ¬ a = H.size := by have := hg.2.2.1; omega
    exact ⟨(nA_k' e).trans hg.1, hg.2.1, by have := hg.2.2.1; omega, hg.2.2.2.kept (o1 a hg.2.2.1)⟩
  · rw [nA_l, e1]
    congr 2
    funext i
    rw [nA_I]
    rfl
  · by_cases e : q = H.size
    · rw [e]; exact hA _ h3.1
    · exact h2 q (by rw [← nA_k' (k := 11) (n := N') e]; exact hq)
theorem g_newaZ (hC : fOK X cc nL own rm l D cy) {n : Int32} {N' : Nat} (harr : Cond.arrayClass .boolean ∈ lwA) (hn : ¬ n < 0) (hN : n.toNatClampNeg = N') (hbytes : N' * 4 ≤ 536870912) (hcs : cells + 1 ≤ rm.cells ∧ slots + N' ≤ rm.slots) (hd : decode cc pc = .ok (.newarray .boolean, 2)) (k : w.1 h = 0 → gAt X (cells + 1) (slots + N') nL (nA w h 12 N') (h + 1) E L (.ref h :: st) (pc + 2)) : gAt X cells slots nL w h E L (.int n :: st) pc := by
  obtain ⟨p, l', e, R, s, m, args, below, meth, c, Q, D', cy', A⟩ := X
  obtain ⟨hx, hb, hml, hown, hts, hE, hA, rfl, rfl, rfl, rfl⟩ := hC
  intro H locs ls hz h1 h2 h3 h4
  have hz1 := hz.1
  subst hz1
  have hw0 : w.1 H.size = 0 := by
    by_cases e : w.1 H.size = 0
    · exact e
    · exact absurd (h1.1 _ e) (Nat.lt_irrefl _)
  refine va_newaK (atype := .boolean) hx hb (hts _ harr) rfl hd rfl hn hN (Nat.le_trans (Nat.mul_le_mul_left _ (by decide)) hbytes) hcs.1 hcs.2 rfl fun H1 cA e1 z1 o1 hAr hNm => ?_
  have hcA : cA = cy' 2 := Option.some.inj (hNm.symm.trans ((hE.1.2 2 _ rfl).2 : s.vm.findClass _ = some _))
  subst hcA
  refine k hw0 H1 locs ls ⟨z1, fun a x hx9 => ?_⟩ ((h1.off hw0 (by omega) (fun q hq _ => o1 q hq)).take (gOff.nA w H.size 12 N') (by omega) (fat_ai (j := 2) (nA_k _ _ _ _) (by decide) ?_)) (fun q hq => ?_) ⟨Nat.le_trans h3.1 (by omega), fun x hx1 hx2 => (o1 x (Nat.lt_of_lt_of_le hx1 h3.1)).trans (h3.2.1 x hx1 hx2), h3.2.2⟩ h4
  · have hg := hz.2 a x hx9
    have e : ¬ a = H.size := by have := hg.2.2.1; omega
    exact ⟨(nA_k' e).trans hg.1, hg.2.1, by have := hg.2.2.1; omega, hg.2.2.2.kept (o1 a hg.2.2.1)⟩
  · rw [nA_l, e1]
    congr 2
    funext i
    rw [nA_I]
    rfl
  · by_cases e : q = H.size
    · rw [e]; exact hA _ h3.1
    · exact h2 q (by rw [← nA_k' (k := 12) (n := N') e]; exact hq)
theorem g_newaJ (hC : fOK X cc nL own rm l D cy) {n : Int32} {N' : Nat} (harr : Cond.arrayClass .long ∈ lwA) (hn : ¬ n < 0) (hN : n.toNatClampNeg = N') (hbytes : N' * 8 ≤ 536870912) (hcs : cells + 1 ≤ rm.cells ∧ slots + N' ≤ rm.slots) (hd : decode cc pc = .ok (.newarray .long, 2)) (k : w.1 h = 0 → E h = none → gAt X (cells + 1) (slots + N') nL w (h + 1) (gUp E h (some (.inl (arrV (cy 5) N' (fun _ => defaultValue .long))))) L (.ref h :: st) (pc + 2)) : gAt X cells slots nL w h E L (.int n :: st) pc := by
  obtain ⟨p, l', e, R, s, m, args, below, meth, c, Q, D', cy', A⟩ := X
  obtain ⟨hx, hb, hml, hown, hts, hE, hA, rfl, rfl, rfl, rfl⟩ := hC
  intro H locs ls hz h1 h2 h3 h4
  have hz1 := hz.1
  subst hz1
  have hw0 : w.1 H.size = 0 := by
    by_cases e : w.1 H.size = 0
    · exact e
    · exact absurd (h1.1 _ e) (Nat.lt_irrefl _)
  have hE0 : E H.size = none := by
    cases e : E H.size with
    | none => rfl
    | some x => exact absurd (hz.2 _ _ e).2.2.1 (Nat.lt_irrefl _)
  refine va_newaK (atype := .long) hx hb (hts _ harr) rfl hd rfl hn hN (Nat.le_trans (Nat.mul_le_mul_left _ (by decide)) hbytes) hcs.1 hcs.2 rfl fun H1 cA e1 z1 o1 hAr hNm => ?_
  have hcA : cA = cy' 5 := Option.some.inj (hNm.symm.trans ((hE.1.2 5 _ rfl).2 : s.vm.findClass _ = some _))
  subst hcA
  refine k hw0 hE0 H1 locs ls ⟨z1, fun a x hx9 => ?_⟩ (h1.off hw0 (by omega) (fun q hq _ => o1 q hq)) h2 ⟨Nat.le_trans h3.1 (by omega), fun x hx1 hx2 => (o1 x (Nat.lt_of_lt_of_le hx1 h3.1)).trans (h3.2.1 x hx1 hx2), h3.2.2⟩ h4
  by_cases e : a = H.size
  · subst e
    rw [gUp_s] at hx9
    cases hx9
    exact ⟨hw0, hA _ h3.1, by omega, e1⟩
  · rw [gUp_n e] at hx9
    have hg := hz.2 a x hx9
    exact ⟨hg.1, hg.2.1, by have := hg.2.2.1; omega, hg.2.2.2.kept (o1 a hg.2.2.1)⟩
theorem g_newaB (hC : fOK X cc nL own rm l D cy) {n : Int32} {N' : Nat} (harr : Cond.arrayClass .byte ∈ lwA) (hn : ¬ n < 0) (hN : n.toNatClampNeg = N') (hbytes : N' * 8 ≤ 536870912) (hcs : cells + 1 ≤ rm.cells ∧ slots + N' ≤ rm.slots) (hd : decode cc pc = .ok (.newarray .byte, 2)) (k : w.1 h = 0 → E h = none → gAt X (cells + 1) (slots + N') nL w (h + 1) (gUp E h (some (.inl (arrV (cy 6) N' (fun _ => defaultValue .byte))))) L (.ref h :: st) (pc + 2)) : gAt X cells slots nL w h E L (.int n :: st) pc := by
  obtain ⟨p, l', e, R, s, m, args, below, meth, c, Q, D', cy', A⟩ := X
  obtain ⟨hx, hb, hml, hown, hts, hE, hA, rfl, rfl, rfl, rfl⟩ := hC
  intro H locs ls hz h1 h2 h3 h4
  have hz1 := hz.1
  subst hz1
  have hw0 : w.1 H.size = 0 := by
    by_cases e : w.1 H.size = 0
    · exact e
    · exact absurd (h1.1 _ e) (Nat.lt_irrefl _)
  have hE0 : E H.size = none := by
    cases e : E H.size with
    | none => rfl
    | some x => exact absurd (hz.2 _ _ e).2.2.1 (Nat.lt_irrefl _)
  refine va_newaK (atype := .byte) hx hb (hts _ harr) rfl hd rfl hn hN (Nat.le_trans (Nat.mul_le_mul_left _ (by decide)) hbytes) hcs.1 hcs.2 rfl fun H1 cA e1 z1 o1 hAr hNm => ?_
  have hcA : cA = cy' 6 := Option.some.inj (hNm.symm.trans ((hE.1.2 6 _ rfl).2 : s.vm.findClass _ = some _))
  subst hcA
  refine k hw0 hE0 H1 locs ls ⟨z1, fun a x hx9 => ?_⟩ (h1.off hw0 (by omega) (fun q hq _ => o1 q hq)) h2 ⟨Nat.le_trans h3.1 (by omega), fun x hx1 hx2 => (o1 x (Nat.lt_of_lt_of_le hx1 h3.1)).trans (h3.2.1 x hx1 hx2), h3.2.2⟩ h4
  by_cases e : a = H.size
  · subst e
    rw [gUp_s] at hx9
    cases hx9
    exact ⟨hw0, hA _ h3.1, by omega, e1⟩
  · rw [gUp_n e] at hx9
    have hg := hz.2 a x hx9
    exact ⟨hg.1, hg.2.1, by have := hg.2.2.1; omega, hg.2.2.2.kept (o1 a hg.2.2.1)⟩
theorem g_anew0 (hC : fOK X cc nL own rm l D cy) {n : Int32} {N' i : Nat} (hcl : Cond.classLink own i RX1 ∈ lwA) (hover : Cond.arrayOver (.object RX1) ∈ lwN) (hn : ¬ n < 0) (hN : n.toNatClampNeg = N') (hbytes : N' * 4 ≤ 536870912) (hcs : cells + 1 ≤ rm.cells ∧ slots + N' ≤ rm.slots) (hd : decode cc pc = .ok (.anewarray i, 3)) (k : w.1 h = 0 → E h = none → gAt X (cells + 1) (slots + N') nL w (h + 1) (gUp E h (some (.inl (arrV (cy 3) N' (fun _ => .null))))) L (.ref h :: st) (pc + 3)) : gAt X cells slots nL w h E L (.int n :: st) pc := by
  obtain ⟨p, l', e, R, s, m, args, below, meth, c, Q, D', cy', A⟩ := X
  obtain ⟨hx, hb, hml, hown, hts, hE, hA, rfl, rfl, rfl, rfl⟩ := hC
  intro H locs ls hz h1 h2 h3 h4
  have hz1 := hz.1
  subst hz1
  subst hN
  have hw0 : w.1 H.size = 0 := by
    by_cases e : w.1 H.size = 0
    · exact e
    · exact absurd (h1.1 _ e) (Nat.lt_irrefl _)
  have hE0 : E H.size = none := by
    cases e : E H.size with
    | none => rfl
    | some x => exact absurd (hz.2 _ _ e).2.2.1 (Nat.lt_irrefl _)
  refine W.anew hx hb hown (hts _ hcl) (va_AO.use (C := RX1) (hE.2.1 _ hover)) rfl hd rfl hn hbytes hcs.1 hcs.2 fun cA kA comp f1 f2 f3 f4 => ?_
  have hcA : cA = cy' 3 := by
    obtain ⟨kB, cB, g1, g2, g3, g4⟩ := (hE.1.2 3 _ rfl).2
    exact Option.some.inj (f1.symm.trans g4)
  subst hcA
  generalize hH1 : H.push ({ cls := cy' 3, slots := Array.replicate n.toNatClampNeg .null, vm := .none } : Cell) = H1
  have z1 : H1.size = H.size + 1 := by rw [← hH1, Array.size_push]
  have e1 : H1[H.size]? = some (arrV (cy' 3) n.toNatClampNeg (fun _ => .null)) := by rw [← hH1, Array.getElem?_push_size, ← arrV_new]
  have o1 : ∀ q : Nat, q < H.size → H1[q]? = H[q]? := fun q hq => by rw [← hH1, Array.getElem?_push, if_neg (Nat.ne_of_lt hq)]
  refine k hw0 hE0 H1 locs ls ⟨z1, fun a x hx9 => ?_⟩ (h1.off hw0 (by omega) (fun q hq _ => o1 q hq)) h2 ⟨Nat.le_trans h3.1 (by omega), fun x hx1 hx2 => (o1 x (Nat.lt_of_lt_of_le hx1 h3.1)).trans (h3.2.1 x hx1 hx2), h3.2.2⟩ h4
  by_cases e : a = H.size
  · subst e
    rw [gUp_s] at hx9
    cases hx9
    exact ⟨hw0, hA _ h3.1, by omega, e1⟩
  · rw [gUp_n e] at hx9
    have hg := hz.2 a x hx9
    exact ⟨hg.1, hg.2.1, by have := hg.2.2.1; omega, hg.2.2.2.kept (o1 a hg.2.2.1)⟩
theorem g_aastE0 (hC : fOK X cc nL own rm l D cy) {a v n : Nat} {i : Int32} {f : Nat → Value} (he : E a = some (.inl (arrV (cy 3) n f))) (hv : w.1 v = 2) (hin : vp_in i n) (hd : decode cc pc = .ok (.aastore, 1)) (k : gAt X cells slots nL w h (gUp E a (some (.inl (arrV (cy 3) n (updV f i.toNatClampNeg (.ref v)))))) L st (pc + 1)) : gAt X cells slots nL w h E L (.ref v :: .int i :: .ref a :: st) pc := by
  obtain ⟨p, l', e, R, s, m, args, below, meth, c, Q, D', cy', A⟩ := X
  obtain ⟨hx, hb, hml, hown, hts, hE, hA, rfl, rfl, rfl, rfl⟩ := hC
  intro H locs ls hz h1 h2 h3 h4
  have hlt : i.toNatClampNeg < n := Nat.not_le.mp fun q => hin (Or.inr q)
  have h0 : ¬ i < 0 := fun q => hin (Or.inl q)
  have hg := hz.2 a _ he
  obtain ⟨cellV, g1, g2, g3, -⟩ := h1.ob (ci := 1) hv (by decide)
  have hcls := (hE.1.1 1 _ rfl).2
  obtain ⟨kA, comp, k1, k2, k3, -⟩ := (hE.1.2 3 _ rfl).2
  have hcomp : comp = D'.1 1 := Option.some.inj (k3.symm.trans hcls.1)
  subst hcomp
  obtain ⟨kC, hkC, -⟩ := hcls.2
  refine W.aast hx hb hg.2.2.2 (fun q h => by cases h) (fun h => by cases h) k1 k2 rfl hkC ⟨h0, by show _ < (arrV _ _ _).slots.size; rw [arrV_size]; exact hlt⟩ g1 (fun q h => by rw [g3] at h; cases h) (by rw [g2]; exact hkC) (by rw [g2]; exact va_assign hcls) rfl rfl hd fun H1 e9 z oq => ?_
  refine k H1 _ ls (hz.pin he z oq ?_) (h1.off hg.1 (Nat.le_of_eq z.symm) (fun q _ hq => oq q hq)) h2 (h3.put z oq hg.2.1) h4
  show H1[a]? = some (arrV _ _ _)
  rw [e9, arrV_store]
theorem g_anew1 (hC : fOK X cc nL own rm l D cy) {n : Int32} {N' i : Nat} (hcl : Cond.classLink own i RX2 ∈ lwA) (hover : Cond.arrayOver (.object RX2) ∈ lwN) (hn : ¬ n < 0) (hN : n.toNatClampNeg = N') (hbytes : N' * 4 ≤ 536870912) (hcs : cells + 1 ≤ rm.cells ∧ slots + N' ≤ rm.slots) (hd : decode cc pc = .ok (.anewarray i, 3)) (k : w.1 h = 0 → E h = none → gAt X (cells + 1) (slots + N') nL w (h + 1) (gUp E h (some (.inl (arrV (cy 4) N' (fun _ => .null))))) L (.ref h :: st) (pc + 3)) : gAt X cells slots nL w h E L (.int n :: st) pc := by
  obtain ⟨p, l', e, R, s, m, args, below, meth, c, Q, D', cy', A⟩ := X
  obtain ⟨hx, hb, hml, hown, hts, hE, hA, rfl, rfl, rfl, rfl⟩ := hC
  intro H locs ls hz h1 h2 h3 h4
  have hz1 := hz.1
  subst hz1
  subst hN
  have hw0 : w.1 H.size = 0 := by
    by_cases e : w.1 H.size = 0
    · exact e
    · exact absurd (h1.1 _ e) (Nat.lt_irrefl _)
  have hE0 : E H.size = none := by
    cases e : E H.size with
    | none => rfl
    | some x => exact absurd (hz.2 _ _ e).2.2.1 (Nat.lt_irrefl _)
  refine W.anew hx hb hown (hts _ hcl) (va_AO.use (C := RX2) (hE.2.1 _ hover)) rfl hd rfl hn hbytes hcs.1 hcs.2 fun cA kA comp f1 f2 f3 f4 => ?_
  have hcA : cA = cy' 4 := by
    obtain ⟨kB, cB, g1, g2, g3, g4⟩ := (hE.1.2 4 _ rfl).2
    exact Option.some.inj (f1.symm.trans g4)
  subst hcA
  generalize hH1 : H.push ({ cls := cy' 4, slots := Array.replicate n.toNatClampNeg .null, vm := .none } : Cell) = H1
  have z1 : H1.size = H.size + 1 := by rw [← hH1, Array.size_push]
  have e1 : H1[H.size]? = some (arrV (cy' 4) n.toNatClampNeg (fun _ => .null)) := by rw [← hH1, Array.getElem?_push_size, ← arrV_new]
  have o1 : ∀ q : Nat, q < H.size → H1[q]? = H[q]? := fun q hq => by rw [← hH1, Array.getElem?_push, if_neg (Nat.ne_of_lt hq)]
  refine k hw0 hE0 H1 locs ls ⟨z1, fun a x hx9 => ?_⟩ (h1.off hw0 (by omega) (fun q hq _ => o1 q hq)) h2 ⟨Nat.le_trans h3.1 (by omega), fun x hx1 hx2 => (o1 x (Nat.lt_of_lt_of_le hx1 h3.1)).trans (h3.2.1 x hx1 hx2), h3.2.2⟩ h4
  by_cases e : a = H.size
  · subst e
    rw [gUp_s] at hx9
    cases hx9
    exact ⟨hw0, hA _ h3.1, by omega, e1⟩
  · rw [gUp_n e] at hx9
    have hg := hz.2 a x hx9
    exact ⟨hg.1, hg.2.1, by have := hg.2.2.1; omega, hg.2.2.2.kept (o1 a hg.2.2.1)⟩
theorem g_aastE1 (hC : fOK X cc nL own rm l D cy) {a v n : Nat} {i : Int32} {f : Nat → Value} (he : E a = some (.inl (arrV (cy 4) n f))) (hv : w.1 v = 3) (hin : vp_in i n) (hd : decode cc pc = .ok (.aastore, 1)) (k : gAt X cells slots nL w h (gUp E a (some (.inl (arrV (cy 4) n (updV f i.toNatClampNeg (.ref v)))))) L st (pc + 1)) : gAt X cells slots nL w h E L (.ref v :: .int i :: .ref a :: st) pc := by
  obtain ⟨p, l', e, R, s, m, args, below, meth, c, Q, D', cy', A⟩ := X
  obtain ⟨hx, hb, hml, hown, hts, hE, hA, rfl, rfl, rfl, rfl⟩ := hC
  intro H locs ls hz h1 h2 h3 h4
  have hlt : i.toNatClampNeg < n := Nat.not_le.mp fun q => hin (Or.inr q)
  have h0 : ¬ i < 0 := fun q => hin (Or.inl q)
  have hg := hz.2 a _ he
  obtain ⟨cellV, g1, g2, g3, -⟩ := h1.ob (ci := 2) hv (by decide)
  have hcls := (hE.1.1 2 _ rfl).2
  obtain ⟨kA, comp, k1, k2, k3, -⟩ := (hE.1.2 4 _ rfl).2
  have hcomp : comp = D'.1 2 := Option.some.inj (k3.symm.trans hcls.1)
  subst hcomp
  obtain ⟨kC, hkC, -⟩ := hcls.2
  refine W.aast hx hb hg.2.2.2 (fun q h => by cases h) (fun h => by cases h) k1 k2 rfl hkC ⟨h0, by show _ < (arrV _ _ _).slots.size; rw [arrV_size]; exact hlt⟩ g1 (fun q h => by rw [g3] at h; cases h) (by rw [g2]; exact hkC) (by rw [g2]; exact va_assign hcls) rfl rfl hd fun H1 e9 z oq => ?_
  refine k H1 _ ls (hz.pin he z oq ?_) (h1.off hg.1 (Nat.le_of_eq z.symm) (fun q _ hq => oq q hq)) h2 (h3.put z oq hg.2.1) h4
  show H1[a]? = some (arrV _ _ _)
  rw [e9, arrV_store]
theorem g_takeOb {a ci : Nat} {V : Nat → Value} {w' : FW} {n : Nat} (he : E a = some (.inr (ci, V))) (hci : ci < 7) (ho : gOff w' w a) (hk : w'.1 a = ci + 1) (hV : ∀ j, j < fN ci → V j = fV w' ci a j) (k : gAt X cells slots n w' h (gUp E a none) L st pc) : gAt X cells slots n w h E L st pc := by
  obtain ⟨p, l', e, R, s, m, args, below, meth, c, Q, D', cy', A⟩ := X
  intro H locs ls hz h1 h2 h3 h4
  have hg := hz.2 a _ he
  refine k H locs ls ⟨hz.1, fun q x hx => ?_⟩ (h1.take ho hg.2.2.1 (fat_ob hk hci (t_OB.to hg.2.2.2 hV))) (fun q hq => ?_) h3 h4
  · by_cases e : q = a
    · subst e
      rw [gUp_s] at hx
      cases hx
    · rw [gUp_n e] at hx
      have hgq := hz.2 q x hx
      exact ⟨(ho q e).1.trans hgq.1, hgq.2⟩
  · by_cases e : q = a
    · rw [e]; exact hg.2.1
    · exact h2 q (by rw [← (ho q e).1]; exact hq)
theorem g_takeAr (hC : fOK X cc nL own rm l D cy) {a j N' : Nat} {f : Nat → Value} {w' : FW} (hj : j < 2) (he : E a = some (.inl (arrV (cy (3 + j)) N' f))) (ho : gOff w' w a) (hk : w'.1 a = 13 + j) (hl : w'.2.1 a = N') (hV : ∀ i, i < N' → f i = .ref (gR w' (603 + j) a i)) (k : gAt X cells slots nL w' h (gUp E a none) L st pc) : gAt X cells slots nL w h E L st pc := by
  obtain ⟨p, l', e, R, s, m, args, below, meth, c, Q, D', cy', A⟩ := X
  obtain ⟨hx, hb, hml, hown, hts, hE, hA, rfl, rfl, rfl, rfl⟩ := hC
  intro H locs ls hz h1 h2 h3 h4
  have hg := hz.2 a _ he
  refine k H locs ls ⟨hz.1, fun q x hx => ?_⟩ (h1.take ho hg.2.2.1 (fat_ar (j := j) hk hj ?_)) (fun q hq => ?_) h3 h4
  · by_cases e : q = a
    · subst e
      rw [gUp_s] at hx
      cases hx
    · rw [gUp_n e] at hx
      have hgq := hz.2 q x hx
      exact ⟨(ho q e).1.trans hgq.1, hgq.2⟩
  · rw [hl]
    exact hg.2.2.2.trans (congrArg some (g_arrV hV))
  · by_cases e : q = a
    · rw [e]; exact hg.2.1
    · exact h2 q (by rw [← (ho q e).1]; exact hq)
theorem g_ctor (hC : fOK X cc nL own rm l D cy) {y : MethodName} {bytes : ByteArray} {maxL b ci k1 i : Nat} {rm1 : Room} {W1 : FW → Nat → Nat → FW} (hM : gSpec l D cy y bytes maxL rm1 ci W1 k1) (hyn : y.name = "<init>") (hcode : Cond.code y bytes maxL none ∈ lwA) (hini : Cond.initialized y.cls ∈ lwA) (hlink : Cond.methodLink own i y ∈ lwA) (hinst : Cond.instanceMethod y ∈ lwA) (hd9 : y.cls ≠ "java/lang/invoke/MethodHandle" ∧ y.cls ≠ "java/lang/invoke/VarHandle" ∧ (parseMethodDescriptor y.desc).map (fun d => d.parameters.length) = some 0) (hR : rm1.frames + 1 ≤ rm.frames ∧ 8 + (maxL + 11) + rm1.locals ≤ rm.locals) (hcs : cells + rm1.cells ≤ rm.cells ∧ slots + rm1.slots ≤ rm.slots) (hcat : (st.map fun v => v.category).sum ≤ 8) (he : E b = some (.inr (ci, gZ ci))) (hW : ∀ q, q < h → ¬ q = b → (W1 w b h).1 q = w.1 q) (hd : decode cc pc = .ok (.invokespecial i, 3)) (k : gAt X (cells + rm1.cells) (slots + rm1.slots) nL (W1 w b h) (h + k1) (gUp E b none) L st (pc + 3)) : gAt X cells slots nL w h E L (.ref b :: st) pc := by
  obtain ⟨p, l', e, R, s, m, args, below, meth, c, Q, D', cy', A⟩ := X
  obtain ⟨hx, hb, hml, hown, hts, hE, hA, rfl, rfl, rfl, rfl⟩ := hC
  intro H locs ls hz h1 h2 h3 h4
  have hz1 := hz.1
  subst hz1
  have hg := hz.2 b _ he
  have hin : ∀ q, gdom w H.size b q → A q := fun q hq => hq.elim (h2 q) (fun z => z.elim (fun z => hA q (Nat.le_trans h3.1 z)) (fun z => z ▸ hg.2.1))
  have hr : va_Run p l' e R s m args below meth c H locs cells slots rm1.cells rm1.slots (F0 m pc ls (.ref b :: st)) st (gQ D' cy' (W1 w b H.size) (H.size + k1) (gdom w H.size b) (Value.ref b :: []).toArray) (gdom w H.size b) := va_runI (As := []) (rest := st) ⟨hx, hb, hml, hown, hts⟩ (hM w H.size b) ⟨callB_of 0 hts (gA0 hcode) rfl rfl rfl (hts _ hini) (hts _ hlink) hd9 hR, hyn, hts _ hinst⟩ ⟨gPc_blind, fun U hU hW9 => ⟨rfl, by rw [hU], by rw [hU]; exact h1, hg.1, hg.2.2.1, by rw [hU]; exact hg.2.2.2, hE.pass hW9 (locs := locs) (by rw [hU]; exact h3) hin⟩⟩ rfl rfl h4.1 rfl (lv_room hcat) hd hcs
  intro T hT X
  obtain ⟨v, st₀, t, T', LL, h0, X', hL, e1, e2, ⟨hv, hFH, hsz, hz9, hq⟩, st9⟩ := hr T hT X
  cases hv
  rw [h0] at hz9 hq
  have hT1 : T'.heap.size = H.size + k1 := by rw [e1]; exact hsz
  have hk9 : ∀ q, q < H.size → ¬ q = b → w.1 q = 0 → T'.heap[q]? = H[q]? := fun q h5 h6 h7 => by
    rw [e1]
    exact hq q h5 (fun z => z.elim (fun z => z h7) (fun z => z.elim (fun z => absurd h5 (Nat.not_lt.mpr z)) h6))
  have hon : gOn D' (W1 w b H.size) (H.size + k1) (gUp E b none) A T'.heap := by
    refine ⟨hT1, fun a x hx9 => ?_⟩
    by_cases e : a = b
    · subst e
      rw [gUp_s] at hx9
      cases hx9
    · rw [gUp_n e] at hx9
      have hga := hz.2 a x hx9
      exact ⟨(hW a hga.2.2.1 e).trans hga.1, hga.2.1, by have := hga.2.2.1; omega, hga.2.2.2.kept (hk9 a hga.2.2.1 e hga.1)⟩
  have hA9 : ∀ q, (W1 w b H.size).1 q ≠ 0 → A q := by
    intro q hq9
    by_cases e : q = b
    · rw [e]; exact hg.2.1
    · by_cases e2 : q < H.size
      · exact h2 q (by rw [← hW q e2 e]; exact hq9)
      · exact hA q (Nat.le_trans h3.1 (Nat.le_of_not_lt e2))
  obtain ⟨t2, a1, b1⟩ := k T'.heap (locs ++ LL) ls hon (by rw [e1]; exact hFH) hA9
    ⟨Nat.le_trans h3.1 (by rw [e1]; exact hz9), fun q h5 h6 => by rw [e1, hq q (Nat.lt_of_lt_of_le h5 h3.1) (fun z => h6 (hin q z))]; exact h3.2.1 q h5 h6, fun q hq => by
      rcases List.mem_append.mp hq with h | h
      · exact h3.2.2 q h
      · exact hin _ (hL q h)⟩ h4 T' rfl X'
  exact ⟨t2, st9 t2 a1, b1⟩
theorem g_ctorN (hC : fOK X cc nL own rm l D cy) {y : MethodName} {bytes : ByteArray} {maxL b ci k1 i : Nat} {rm1 : Room} {W1 : FW → Nat → Nat → FW} {host : String} (hM : gSpec l D cy y bytes maxL rm1 ci W1 k1) (hyn : y.name = "<init>") (hcode : Cond.code y bytes maxL none ∈ lwA) (hini : Cond.initialized y.cls ∈ lwA) (hlink : Cond.methodLinkNest own i y host ∈ lwN) (hinst : Cond.instanceMethod y ∈ lwA) (hd9 : y.cls ≠ "java/lang/invoke/MethodHandle" ∧ y.cls ≠ "java/lang/invoke/VarHandle" ∧ (parseMethodDescriptor y.desc).map (fun d => d.parameters.length) = some 0) (hR : rm1.frames + 1 ≤ rm.frames ∧ 8 + (maxL + 11) + rm1.locals ≤ rm.locals) (hcs : cells + rm1.cells ≤ rm.cells ∧ slots + rm1.slots ≤ rm.slots) (hcat : (st.map fun v => v.category).sum ≤ 8) (he : E b = some (.inr (ci, gZ ci))) (hW : ∀ q, q < h → ¬ q = b → (W1 w b h).1 q = w.1 q) (hd : decode cc pc = .ok (.invokespecial i, 3)) (k : gAt X (cells + rm1.cells) (slots + rm1.slots) nL (W1 w b h) (h + k1) (gUp E b none) L st (pc + 3)) : gAt X cells slots nL w h E L (.ref b :: st) pc := by
  obtain ⟨p, l', e, R, s, m, args, below, meth, c, Q, D', cy', A⟩ := X
  obtain ⟨hx, hb, hml, hown, hts, hE, hA, rfl, rfl, rfl, rfl⟩ := hC
  intro H locs ls hz h1 h2 h3 h4
  have hz1 := hz.1
  subst hz1
  have hg := hz.2 b _ he
  have hin : ∀ q, gdom w H.size b q → A q := fun q hq => hq.elim (h2 q) (fun z => z.elim (fun z => hA q (Nat.le_trans h3.1 z)) (fun z => z ▸ hg.2.1))
  have hr : va_Run p l' e R s m args below meth c H locs cells slots rm1.cells rm1.slots (F0 m pc ls (.ref b :: st)) st (gQ D' cy' (W1 w b H.size) (H.size + k1) (gdom w H.size b) (Value.ref b :: []).toArray) (gdom w H.size b) := va_runIN (As := []) (rest := st) ⟨hx, hb, hml, hown, hts⟩ (hM w H.size b) ⟨va_cnB 0 hts (gA0 hcode) rfl rfl rfl (hE.2.1 _ hlink) (hts _ hini) hd9 hR, hyn, hts _ hinst⟩ ⟨gPc_blind, fun U hU hW9 => ⟨rfl, by rw [hU], by rw [hU]; exact h1, hg.1, hg.2.2.1, by rw [hU]; exact hg.2.2.2, hE.pass hW9 (locs := locs) (by rw [hU]; exact h3) hin⟩⟩ rfl rfl h4.1 rfl (lv_room hcat) hd hcs
  intro T hT X
  obtain ⟨v, st₀, t, T', LL, h0, X', hL, e1, e2, ⟨hv, hFH, hsz, hz9, hq⟩, st9⟩ := hr T hT X
  cases hv
  rw [h0] at hz9 hq
  have hT1 : T'.heap.size = H.size + k1 := by rw [e1]; exact hsz
  have hk9 : ∀ q, q < H.size → ¬ q = b → w.1 q = 0 → T'.heap[q]? = H[q]? := fun q h5 h6 h7 => by
    rw [e1]
    exact hq q h5 (fun z => z.elim (fun z => z h7) (fun z => z.elim (fun z => absurd h5 (Nat.not_lt.mpr z)) h6))
  have hon : gOn D' (W1 w b H.size) (H.size + k1) (gUp E b none) A T'.heap := by
    refine ⟨hT1, fun a x hx9 => ?_⟩
    by_cases e : a = b
    · subst e
      rw [gUp_s] at hx9
      cases hx9
    · rw [gUp_n e] at hx9
      have hga := hz.2 a x hx9
      exact ⟨(hW a hga.2.2.1 e).trans hga.1, hga.2.1, by have := hga.2.2.1; omega, hga.2.2.2.kept (hk9 a hga.2.2.1 e hga.1)⟩
  have hA9 : ∀ q, (W1 w b H.size).1 q ≠ 0 → A q := by
    intro q hq9
    by_cases e : q = b
    · rw [e]; exact hg.2.1
    · by_cases e2 : q < H.size
      · exact h2 q (by rw [← hW q e2 e]; exact hq9)
      · exact hA q (Nat.le_trans h3.1 (Nat.le_of_not_lt e2))
  obtain ⟨t2, a1, b1⟩ := k T'.heap (locs ++ LL) ls hon (by rw [e1]; exact hFH) hA9
    ⟨Nat.le_trans h3.1 (by rw [e1]; exact hz9), fun q h5 h6 => by rw [e1, hq q (Nat.lt_of_lt_of_le h5 h3.1) (fun z => h6 (hin q z))]; exact h3.2.1 q h5 h6, fun q hq => by
      rcases List.mem_append.mp hq with h | h
      · exact h3.2.2 q h
      · exact hin _ (hL q h)⟩ h4 T' rfl X'
  exact ⟨t2, st9 t2 a1, b1⟩
theorem g_end (hC : fOK X cc nL own rm l D cy) {hz9 : Nat} (hEn : gEnd X w hz9 cells slots) (hh : h = hz9) (hd : decode cc pc = .ok (.return_, 1)) : gAt X cells slots nL w h E L [] pc := by
  obtain ⟨p, l', e, R, s, m, args, below, meth, c, Q, D', cy', A⟩ := X
  obtain ⟨hx, hb, hml, hown, hts, hE, hA, rfl, rfl, rfl, rfl⟩ := hC
  intro H locs ls hz h1 h2 h3 h4
  obtain ⟨r1, r2, rfl⟩ := hEn
  exact W.vret hx hb r1 (fun t ht hW => ⟨rfl, by rw [ht]; exact h1, by rw [ht]; exact hz.1.trans hh, h3.F ht⟩) h3.2.2 hd r2
theorem g_nm {n : Nat} (h' : Nat) (E' : gE) (w' : FW) (L' : List (Nat × Value)) (hh : h' = h) (hE' : E' = E) (hw : w' = w) (hL : L' = L) (k : gAt X cells slots n w' h' E' L' st pc) : gAt X cells slots n w h E L st pc := by
  subst hh; subst hE'; subst hw; subst hL
  exact k
end GROWS
