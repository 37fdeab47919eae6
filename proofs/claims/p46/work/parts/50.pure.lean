/-! PURE: tools for the functions that say what the methods do -/
def zz (a : Int32) : Int32 := if a = 0 then 0 else 1
theorem fLoop_go {σ ρ : Type} {f : σ → Option (σ ⊕ ρ)} {s s' : σ} (h : f s = some (.inl s')) : fLoop f s = fLoop f s' := by
  rw [fLoop_eq, h]
  rfl
theorem fLoop_out {σ ρ : Type} {f : σ → Option (σ ⊕ ρ)} {s : σ} {r : ρ} (h : f s = some (.inr r)) : fLoop f s = some r := by
  rw [fLoop_eq, h]
  rfl
/-- a loop by its states -/
theorem fLoop_for {σ ρ : Type} {f : σ → Option (σ ⊕ ρ)} (st : Nat → σ) (n : Nat) {r : ρ} (hgo : ∀ k, k < n → f (st k) = some (.inl (st (k + 1)))) (hend : f (st n) = some (.inr r)) : fLoop f (st 0) = some r := by
  have h : ∀ j k, k + j = n → fLoop f (st k) = some r := by
    intro j
    induction j with
    | zero =>
      intro k hk
      have : k = n := by omega
      subst this
      exact fLoop_out hend
    | succ j ih =>
      intro k hk
      rw [fLoop_go (hgo k (by omega))]
      exact ih (k + 1) (by omega)
  exact h n 0 (by omega)
/-- a loop that may end early: at the first k where it does -/
theorem fLoop_find {σ ρ : Type} {f : σ → Option (σ ⊕ ρ)} (st : Nat → σ) (n : Nat) (P : Nat → Prop) [DecidablePred P] {r : ρ} {q : Nat → ρ} (hgo : ∀ k, k < n → ¬ P k → f (st k) = some (.inl (st (k + 1)))) (hx : ∀ k, k < n → P k → f (st k) = some (.inr (q k))) (hend : f (st n) = some (.inr r)) :
    fLoop f (st 0) = some (match (List.range n).find? (fun k => decide (P k)) with
      | some k => q k
      | none => r) := by
  cases hf : (List.range n).find? (fun k => decide (P k)) with
  | none =>
    have h0 : ∀ k, k < n → ¬ P k := fun k hk hp => by
      have := List.find?_eq_none.mp hf k (List.mem_range.mpr hk)
      simp [hp] at this
    exact fLoop_for st n (fun k hk => hgo k hk (h0 k hk)) hend
  | some k =>
    have hp : P k := by have := List.find?_some hf; simpa using this
    have hk : k < n := List.mem_range.mp (List.mem_of_find?_eq_some hf)
    have h0 : ∀ j, j < k → ¬ P j := by
      intro j hj hpj
      obtain ⟨_, as, bs, h1, h2⟩ := List.find?_eq_some_iff_append.mp hf
      have hl : as.length = k := by
        have e1 : (List.range n)[as.length]? = some k := by rw [h1]; simp
        rw [List.getElem?_range (by have := congrArg List.length h1; simp at this; omega)] at e1
        exact Option.some.inj e1
      have hm : j ∈ as := by
        have e1 : (List.range n)[j]? = some j := List.getElem?_range (by omega)
        rw [h1, List.getElem?_append_left (by omega)] at e1
        exact List.mem_of_getElem? e1
      have := h2 j hm
      simp [hpj] at this
    exact fLoop_for st k (fun j hj => hgo j (by omega) (h0 j hj)) (hx k hk hp)
def up {α : Type} (f : Nat → α) (c : Nat) (v : α) : Nat → α := fun x => if x = c then v else f x
theorem up_s {α : Type} (f : Nat → α) (c : Nat) (v : α) : up f c v c = v := if_pos rfl
theorem up_n {α : Type} {f : Nat → α} {c x : Nat} {v : α} (h : ¬ x = c) : up f c v x = f x := if_neg h
theorem up_e {α : Type} (f : Nat → α) (c : Nat) (v : α) (x : Nat) : up f c v x = if x = c then v else f x := rfl
/-- a sum of the first n -/
def cnt (f : Nat → Int32) : Nat → Int32
  | 0 => 0
  | k + 1 => cnt f k + f k
theorem cnt_congr {f g : Nat → Int32} {n : Nat} (h : ∀ k, k < n → f k = g k) : cnt f n = cnt g n := by
  induction n with
  | zero => rfl
  | succ n ih =>
    show cnt f n + f n = cnt g n + g n
    rw [ih (fun k hk => h k (by omega)), h n (by omega)]
theorem cnt_0 (f : Nat → Int32) : cnt f 0 = 0 := rfl
theorem cnt_s (f : Nat → Int32) (n : Nat) : cnt f (n + 1) = cnt f n + f n := rfl
theorem nI_mul (a b : Nat) : nI a * nI b = nI (a * b) := (Int32.ofNat_mul a b).symm
/-- an index -/
theorem ix_ok {i : Int32} {n N : Nat} (hi : i = nI n) (h : n < N) (hN : N < 2 ^ 31) : ¬ (i < 0 ∨ N ≤ i.toNatClampNeg) := by
  subst hi
  exact nI_in h hN
