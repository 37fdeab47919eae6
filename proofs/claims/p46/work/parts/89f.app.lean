/-! Four letters or fewer in one number -/
theorem or_8 (a c : Nat) (hc : c < 256) (ha : a < 2 ^ 23) : (nI a <<< (8 : Int32)) ||| nI c = nI (a * 256 + c) := by
  apply Int32.toBitVec_inj.mp
  apply BitVec.eq_of_toNat_eq
  have e8 : (8 : Int32).toBitVec.smod 32 = 8#32 := by decide
  have h1 : (nI a).toBitVec = BitVec.ofNat 32 a := rfl
  have h2 : (nI c).toBitVec = BitVec.ofNat 32 c := rfl
  have h3 : (nI (a * 256 + c)).toBitVec = BitVec.ofNat 32 (a * 256 + c) := rfl
  rw [Int32.toBitVec_or, Int32.toBitVec_shiftLeft, e8, h1, h2, h3]
  simp only [BitVec.toNat_or, BitVec.toNat_shiftLeft, BitVec.toNat_ofNat, BitVec.shiftLeft_eq']
  have e1 : a % 2 ^ 32 = a := Nat.mod_eq_of_lt (by omega)
  have e2 : c % 2 ^ 32 = c := Nat.mod_eq_of_lt (by omega)
  have e3 : 8 % 2 ^ 32 = 8 := by decide
  rw [e1, e2, e3, Nat.shiftLeft_eq, Nat.mod_eq_of_lt (show a * 2 ^ 8 < 2 ^ 32 by omega), Nat.mod_eq_of_lt (show a * 256 + c < 2 ^ 32 by omega), ← Nat.shiftLeft_eq, ← Nat.shiftLeft_add_eq_or_of_lt (show c < 2 ^ 8 by omega), Nat.shiftLeft_eq]
