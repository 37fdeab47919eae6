section FCALLS
theorem gA0 {hd' : Cond} (h : hd' ∈ lwA) : GoodIn lwA (hd' :: lwA) := by
  intro w hw
  have h1 : w ∈ lwA := by
    rcases List.mem_cons.mp hw with rfl | h2
    · exact h
    · exact h2
  exact ⟨h1, good_of_word (List.mem_filter.mp h1).2⟩
theorem fPc_blind {D : va_G} {cy : Nat → ClassId} {As : List Value} {w : FW} {sz : Nat} : FrameBlind (fPc D cy As w sz) := by
  intro a U g mk q
  obtain ⟨q0, q1, q2, q3⟩ := q
  exact ⟨q0, q1, q2, q3.blind g mk a⟩
theorem fPc_at {D : va_G} {cy : Nat → ClassId} {As : List Value} {w : FW} {s U : State} {H : Heap} {A : Nat → Prop} {locs : List Loc} (hE : fEnv D cy A s) (h1 : FH D cy w H) (h2 : ∀ q, w.1 q ≠ 0 → A q) (h3 : va_S A s.heap H locs) (hA : ∀ q, s.heap.size ≤ q → A q) (hU : U.heap = H) (hW : s.WarmedH U.vm) : fPc D cy As w H.size As.toArray U :=
  ⟨rfl, by rw [hU], by rw [hU]; exact h1, hE.pass hW (locs := locs) (by rw [hU]; exact h3) (fun q hq => hq.elim (h2 q) (fun z => hA q (Nat.le_trans h3.1 z)))⟩
section FA
variable {p : Program} {l : Launch} {e : Env} {R : Room} {s : State} {m : MethodId} {args : Array Value} {below : List Frame} {meth : Method} {c : Code} {H : Heap} {locs : List Loc} {cells slots mc ms : Nat} {Q : State → Prop} {D : va_G} {cy : Nat → ClassId} {w w1 : FW} {A : Nat → Prop} {rv : Option Value} {rest st0 : List Value} {a : Array Value} {pc : Nat} {ls : Array Slot}
theorem f_after (hr : va_Run p l e R s m args below meth c H locs cells slots mc ms (F0 m pc ls st0) rest (fQ D cy rv w w1 (fdom w H.size) a) (fdom w H.size)) (h2 : ∀ q, w.1 q ≠ 0 → A q) (hS : va_S A s.heap H locs) (hA : ∀ q, s.heap.size ≤ q → A q)
    (kk : ∀ (H1 : Heap) (locs1 : List Loc), fSm w1 w → FH D cy w1 H1 → (∀ q, w1.1 q ≠ 0 → A q) → va_S A s.heap H1 locs1 → W p l e R s m args below meth c H1 locs1 (cells + mc) (slots + ms) Q (F0 m (pc + 3) ls (rv.toList ++ rest))) : W p l e R s m args below meth c H locs cells slots Q (F0 m pc ls st0) := by
  intro T hT X
  obtain ⟨v, st₀, t, T', L, h0, X', hL, e1, e2, ⟨hv, hb, hk, hz, hq⟩, st⟩ := hr T hT X
  cases hv
  rw [h0] at hz hq
  have hin : ∀ q, fdom w H.size q → A q := fun q hq => hq.elim (h2 q) (fun z => hA q (Nat.le_trans hS.1 z))
  obtain ⟨t2, a1, b1⟩ := kk T'.heap (locs ++ L) hk (by rw [e1]; exact hb) (fun q h => h2 q (by rw [← hk.1]; exact h))
    ⟨Nat.le_trans hS.1 (by rw [e1]; exact hz), fun q h1 h3 => by rw [e1, hq q (Nat.lt_of_lt_of_le h1 hS.1) (fun z => h3 (hin q z))]; exact hS.2.1 q h1 h3, fun q hq => by
      rcases List.mem_append.mp hq with h | h
      · exact hS.2.2 q h
      · exact hin _ (hL q h)⟩ T' rfl X'
  exact ⟨t2, st t2 a1, b1⟩
end FA
variable {X : FX} {cc : ByteArray} {nL : Nat} {own : String} {rm : Room} {l : Launch} {D : va_G} {cy : Nat → ClassId} {cells slots pc : Nat} {w w1 : FW} {L : List (Nat × Value)} {st stk : List Value}
variable {y : MethodName} {bytes : ByteArray} {maxL : Nat} {ret : Option FieldType} {rm1 : Room} {rv : Option Value} {b ci N i : Nat} {T : u_T} {host : String}
theorem f_callV (hC : fOK X cc nL own rm l D cy) (As : List Value) (hM : fSpec l D cy y bytes maxL ret rm1 (.ref b :: As) w w1 rv) (hcode : Cond.code y bytes maxL ret ∈ lwA) (hini : Cond.initialized y.cls ∈ lwA) (hlink : Cond.methodLink own i y ∈ lwA) (hinst : Cond.instanceMethod y ∈ lwA) (hsel : Cond.selects y.cls y y ∈ lwA) (hd9 : y.cls ≠ "java/lang/invoke/MethodHandle" ∧ y.cls ≠ "java/lang/invoke/VarHandle" ∧ (parseMethodDescriptor y.desc).map (fun d => d.parameters.length) = some As.length) (hcl : fCl[ci]? = some (y.cls, T, N)) (hk : w.1 b = ci + 1) (hR : rm1.frames + 1 ≤ rm.frames ∧ 8 + (maxL + 11) + rm1.locals ≤ rm.locals) (hcs : cells + rm1.cells ≤ rm.cells ∧ slots + rm1.slots ≤ rm.slots) (hcat : (st.map fun v => v.category).sum ≤ 8) (hstk : stk = As.reverse ++ .ref b :: st) (hd : decode cc pc = .ok (.invokevirtual i, 3)) (k : fSm w1 w → fAt X (cells + rm1.cells) (slots + rm1.slots) nL w1 L (rv.toList ++ st) (pc + 3)) : fAt X cells slots nL w L stk pc := by
  obtain ⟨p, l', e, R, s, m, args, below, meth, c, Q, D', cy', A⟩ := X
  obtain ⟨hx, hb, hml, hown, hts, hE, hA, rfl, rfl, rfl, rfl⟩ := hC
  intro H locs ls h1 h2 h3 h4
  subst hstk
  obtain ⟨cell, q1, q2, q3, q4⟩ := h1.ob hk (fN_ok hcl).2
  have hcls := (hE.1.1 ci _ hcl).2.1
  refine f_after (va_runV (As := As) (rest := st) (C := y.cls) ⟨hx, hb, hml, hown, hts⟩ (hM H.size) ⟨callB_of As.length hts (gA0 hcode) rfl rfl rfl (hts _ hini) (hts _ hlink) hd9 hR, hts _ hinst, hts _ hsel⟩ ⟨fPc_blind, ⟨cell, q1, by rw [q3]; rfl, by rw [q2]; exact hcls⟩, fun U hU hW => fPc_at hE h1 h2 h3 hA hU hW⟩ rfl rfl h4.1 rfl (lv_room hcat) hd hcs) h2 h3 hA (fun H1 locs1 g0 g1 g2 g3 => k g0 H1 locs1 ls g1 g2 g3 h4)
theorem f_callS (hC : fOK X cc nL own rm l D cy) (As : List Value) (hM : fSpec l D cy y bytes maxL ret rm1 As w w1 rv) (hcode : Cond.code y bytes maxL ret ∈ lwA) (hini : Cond.initialized y.cls ∈ lwA) (hlink : Cond.methodLink own i y ∈ lwA) (hsta : Cond.static y ∈ lwA) (hd9 : y.cls ≠ "java/lang/invoke/MethodHandle" ∧ y.cls ≠ "java/lang/invoke/VarHandle" ∧ (parseMethodDescriptor y.desc).map (fun d => d.parameters.length) = some As.length) (hR : rm1.frames + 1 ≤ rm.frames ∧ 8 + (maxL + 11) + rm1.locals ≤ rm.locals) (hcs : cells + rm1.cells ≤ rm.cells ∧ slots + rm1.slots ≤ rm.slots) (hcat : (st.map fun v => v.category).sum ≤ 8) (hstk : stk = As.reverse ++ st) (hd : decode cc pc = .ok (.invokestatic i, 3)) (k : fSm w1 w → fAt X (cells + rm1.cells) (slots + rm1.slots) nL w1 L (rv.toList ++ st) (pc + 3)) : fAt X cells slots nL w L stk pc := by
  obtain ⟨p, l', e, R, s, m, args, below, meth, c, Q, D', cy', A⟩ := X
  obtain ⟨hx, hb, hml, hown, hts, hE, hA, rfl, rfl, rfl, rfl⟩ := hC
  intro H locs ls h1 h2 h3 h4
  subst hstk
  refine f_after (va_runS (As := As) (rest := st) ⟨hx, hb, hml, hown, hts⟩ (hM H.size) ⟨callB_of As.length hts (gA0 hcode) rfl rfl rfl (hts _ hini) (hts _ hlink) hd9 hR, hts _ hsta⟩ ⟨fPc_blind, fun U hU hW => fPc_at hE h1 h2 h3 hA hU hW⟩ rfl rfl h4.1 rfl (lv_room hcat) hd hcs) h2 h3 hA (fun H1 locs1 g0 g1 g2 g3 => k g0 H1 locs1 ls g1 g2 g3 h4)
theorem f_callVN (hC : fOK X cc nL own rm l D cy) (As : List Value) (hM : fSpec l D cy y bytes maxL ret rm1 (.ref b :: As) w w1 rv) (hcode : Cond.code y bytes maxL ret ∈ lwA) (hini : Cond.initialized y.cls ∈ lwA) (hlink : Cond.methodLinkNest own i y host ∈ lwN) (hinst : Cond.instanceMethod y ∈ lwA) (hsel : Cond.selects y.cls y y ∈ lwA) (hd9 : y.cls ≠ "java/lang/invoke/MethodHandle" ∧ y.cls ≠ "java/lang/invoke/VarHandle" ∧ (parseMethodDescriptor y.desc).map (fun d => d.parameters.length) = some As.length) (hcl : fCl[ci]? = some (y.cls, T, N)) (hk : w.1 b = ci + 1) (hR : rm1.frames + 1 ≤ rm.frames ∧ 8 + (maxL + 11) + rm1.locals ≤ rm.locals) (hcs : cells + rm1.cells ≤ rm.cells ∧ slots + rm1.slots ≤ rm.slots) (hcat : (st.map fun v => v.category).sum ≤ 8) (hstk : stk = As.reverse ++ .ref b :: st) (hd : decode cc pc = .ok (.invokevirtual i, 3)) (k : fSm w1 w → fAt X (cells + rm1.cells) (slots + rm1.slots) nL w1 L (rv.toList ++ st) (pc + 3)) : fAt X cells slots nL w L stk pc := by
  obtain ⟨p, l', e, R, s, m, args, below, meth, c, Q, D', cy', A⟩ := X
  obtain ⟨hx, hb, hml, hown, hts, hE, hA, rfl, rfl, rfl, rfl⟩ := hC
  intro H locs ls h1 h2 h3 h4
  subst hstk
  obtain ⟨cell, q1, q2, q3, q4⟩ := h1.ob hk (fN_ok hcl).2
  have hcls := (hE.1.1 ci _ hcl).2.1
  refine f_after (va_runVN (As := As) (rest := st) (C := y.cls) ⟨hx, hb, hml, hown, hts⟩ (hM H.size) ⟨va_cnB As.length hts (gA0 hcode) rfl rfl rfl (hE.2.1 _ hlink) (hts _ hini) hd9 hR, hts _ hinst, hts _ hsel⟩ ⟨fPc_blind, ⟨cell, q1, by rw [q3]; rfl, by rw [q2]; exact hcls⟩, fun U hU hW => fPc_at hE h1 h2 h3 hA hU hW⟩ rfl rfl h4.1 rfl (lv_room hcat) hd hcs) h2 h3 hA (fun H1 locs1 g0 g1 g2 g3 => k g0 H1 locs1 ls g1 g2 g3 h4)
theorem f_callSN (hC : fOK X cc nL own rm l D cy) (As : List Value) (hM : fSpec l D cy y bytes maxL ret rm1 As w w1 rv) (hcode : Cond.code y bytes maxL ret ∈ lwA) (hini : Cond.initialized y.cls ∈ lwA) (hlink : Cond.methodLinkNest own i y host ∈ lwN) (hsta : Cond.static y ∈ lwA) (hd9 : y.cls ≠ "java/lang/invoke/MethodHandle" ∧ y.cls ≠ "java/lang/invoke/VarHandle" ∧ (parseMethodDescriptor y.desc).map (fun d => d.parameters.length) = some As.length) (hR : rm1.frames + 1 ≤ rm.frames ∧ 8 + (maxL + 11) + rm1.locals ≤ rm.locals) (hcs : cells + rm1.cells ≤ rm.cells ∧ slots + rm1.slots ≤ rm.slots) (hcat : (st.map fun v => v.category).sum ≤ 8) (hstk : stk = As.reverse ++ st) (hd : decode cc pc = .ok (.invokestatic i, 3)) (k : fSm w1 w → fAt X (cells + rm1.cells) (slots + rm1.slots) nL w1 L (rv.toList ++ st) (pc + 3)) : fAt X cells slots nL w L stk pc := by
  obtain ⟨p, l', e, R, s, m, args, below, meth, c, Q, D', cy', A⟩ := X
  obtain ⟨hx, hb, hml, hown, hts, hE, hA, rfl, rfl, rfl, rfl⟩ := hC
  intro H locs ls h1 h2 h3 h4
  subst hstk
  refine f_after (va_runSN (As := As) (rest := st) ⟨hx, hb, hml, hown, hts⟩ (hM H.size) ⟨va_cnB As.length hts (gA0 hcode) rfl rfl rfl (hE.2.1 _ hlink) (hts _ hini) hd9 hR, hts _ hsta, trivial⟩ ⟨fPc_blind, fun U hU hW => fPc_at hE h1 h2 h3 hA hU hW⟩ rfl rfl h4.1 rfl (lv_room hcat) hd hcs) h2 h3 hA (fun H1 locs1 g0 g1 g2 g3 => k g0 H1 locs1 ls g1 g2 g3 h4)
end FCALLS
/-! the pieces of the functions that say what a method does -/
def fg {α : Type} (P : Prop) (h : Decidable P) (k : Option α) : Option α := match h with
  | .isTrue _ => k
  | .isFalse _ => none
theorem fg_open {α : Type} {P : Prop} {h : Decidable P} {k : Option α} {r : α} (e : fg P h k = some r) : P ∧ k = some r := by
  cases h with
  | isTrue hp => exact ⟨hp, e⟩
  | isFalse hp => exact absurd e (by simp [fg])
theorem fb_open {α β : Type} {o : Option α} {f : α → Option β} {b : β} (h : o.bind f = some b) : ∃ a, o = some a ∧ f a = some b := Option.bind_eq_some_iff.mp h
theorem fi_pos {α : Type} {c : Prop} {h : Decidable c} {a b r : α} (e : @ite α c h a b = r) (hc : c) : a = r := (if_pos hc).symm.trans e
theorem fi_neg {α : Type} {c : Prop} {h : Decidable c} {a b r : α} (e : @ite α c h a b = r) (hc : ¬ c) : b = r := (if_neg hc).symm.trans e
def fse {α β γ : Type} (x : α ⊕ β) (f : α → γ) (g : β → γ) : γ := match x with
  | .inl a => f a
  | .inr b => g b
theorem fg_t {α : Type} {P : Prop} {h : Decidable P} {k : Option α} (hp : P) : fg P h k = k := by
  cases h with
  | isTrue _ => rfl
  | isFalse hn => exact absurd hp hn
/-- a loop: a step goes on (inl) or is through (inr) -/
def fit {σ ρ : Type} (f : σ → Option (σ ⊕ ρ)) : Nat → σ → Option ρ
  | 0, _ => none
  | n + 1, s => match f s with
    | none => none
    | some (.inl s') => fit f n s'
    | some (.inr r) => some r
noncomputable def fLoop {σ ρ : Type} (f : σ → Option (σ ⊕ ρ)) (s : σ) : Option ρ := @dite (Option ρ) (∃ n r, fit f n s = some r) (Classical.propDecidable _) (fun h => some h.choose_spec.choose) (fun _ => none)
theorem fit_mono {σ ρ : Type} {f : σ → Option (σ ⊕ ρ)} : ∀ (n m : Nat) (s : σ) (r : ρ), n ≤ m → fit f n s = some r → fit f m s = some r := by
  intro n
  induction n with
  | zero => intro m s r _ h; simp [fit] at h
  | succ n ih =>
    intro m s r hm h
    obtain ⟨m', rfl⟩ : ∃ m', m = m' + 1 := ⟨m - 1, by omega⟩
    unfold fit at h ⊢
    cases hf : f s with
    | none => rw [hf] at h; cases h
    | some x =>
      rw [hf] at h
      cases x with
      | inl s' => exact ih m' s' r (by omega) h
      | inr r' => exact h
theorem fLoop_of {σ ρ : Type} {f : σ → Option (σ ⊕ ρ)} {n : Nat} {s : σ} {r : ρ} (h : fit f n s = some r) : fLoop f s = some r := by
  have hx : ∃ n r, fit f n s = some r := ⟨n, r, h⟩
  unfold fLoop
  rw [dif_pos hx]
  have h2 := hx.choose_spec.choose_spec
  have a := fit_mono n (max n hx.choose) s r (Nat.le_max_left _ _) h
  have b := fit_mono hx.choose (max n hx.choose) s _ (Nat.le_max_right _ _) h2
  exact b.symm.trans a
theorem fLoop_some {σ ρ : Type} {f : σ → Option (σ ⊕ ρ)} {s : σ} {r : ρ} (h : fLoop f s = some r) : ∃ n, fit f n s = some r := by
  unfold fLoop at h
  by_cases hx : ∃ n r, fit f n s = some r
  · rw [dif_pos hx] at h
    cases h
    exact ⟨hx.choose, hx.choose_spec.choose_spec⟩
  · rw [dif_neg hx] at h
    cases h
theorem fLoop_eq {σ ρ : Type} (f : σ → Option (σ ⊕ ρ)) (s : σ) : fLoop f s = (f s).bind (fun x => match x with
    | .inl s' => fLoop f s'
    | .inr r => some r) := by
  cases hf : f s with
  | none =>
    cases h : fLoop f s with
    | none => rfl
    | some r =>
      obtain ⟨n, hn⟩ := fLoop_some h
      cases n with
      | zero => simp [fit] at hn
      | succ n => simp [fit, hf] at hn
  | some x =>
    cases x with
    | inl s' =>
      show fLoop f s = fLoop f s'
      cases h : fLoop f s' with
      | some r =>
        obtain ⟨n, hn⟩ := fLoop_some h
        exact fLoop_of (n := n + 1) (by simp [fit, hf, hn])
      | none =>
        cases h2 : fLoop f s with
        | none => rfl
        | some r =>
          obtain ⟨n, hn⟩ := fLoop_some h2
          cases n with
          | zero => simp [fit] at hn
          | succ n =>
            simp only [fit, hf] at hn
            rw [fLoop_of hn] at h
            cases h
    | inr r => exact fLoop_of (n := 1) (by simp [fit, hf])
/-- a walk of a loop: what holds at its head, by steps -/
theorem fLoop_ind {σ ρ : Type} {f : σ → Option (σ ⊕ ρ)} {r : ρ} (P : σ → Prop) (hs : ∀ (s : σ) (x : σ ⊕ ρ), f s = some x → (∀ s', x = .inl s' → P s') → (∀ r', x = .inr r' → r' = r) → P s) {s : σ} (h : fLoop f s = some r) : P s := by
  obtain ⟨n, hn⟩ := fLoop_some h
  clear h
  induction n generalizing s with
  | zero => simp [fit] at hn
  | succ n ih =>
    unfold fit at hn
    cases hf : f s with
    | none => rw [hf] at hn; cases hn
    | some x =>
      rw [hf] at hn
      refine hs s x hf (fun s' e => ?_) (fun r' e => ?_)
      · subst e; exact ih hn
      · subst e; cases hn; rfl
