theorem fit_z {x : Int32} (h : x = 0 ∨ x = 1) : fits .boolean (.int x) = true := by rcases h with rfl | rfl <;> decide
theorem ftab {x : Int32} (lo hi : Int) (hl : -2147483648 ≤ lo) (hh : hi ≤ 2147483647) (h : ∀ j : Int, lo ≤ j → j ≤ hi → ¬ x = Int32.ofInt j) : x.toInt < lo ∨ hi < x.toInt := by
  by_cases a : x.toInt < lo
  · exact Or.inl a
  · by_cases b : hi < x.toInt
    · exact Or.inr b
    · exact absurd (Int32.ofInt_toInt x).symm (h x.toInt (by omega) (by omega))
theorem flook {ps : List (Int × Int)} {d : Int} {x : Int32} (h : ∀ q ∈ ps, ¬ x = Int32.ofInt q.1) : Op.lookupswitch.offset ps d x.toInt = d := by
  induction ps with
  | nil => rfl
  | cons q ps ih =>
    obtain ⟨a, o⟩ := q
    rw [Op.lookupswitch.offset_cons, if_neg (fun e => h (a, o) List.mem_cons_self (by rw [e]; exact (Int32.ofInt_toInt x).symm))]
    exact ih (fun q hq => h q (List.mem_cons_of_mem _ hq))
