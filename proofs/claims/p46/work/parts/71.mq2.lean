/-! The reference: accounts, numbers, positions -/
section MQ2
variable {w : FW} {M : Nat} {fl : Nat → Int32} {ar : Nat → Nat → Int32}
def qVd (r : UInt64 ⊕ Nat) : UInt64 := match r with
  | .inl v => v
  | .inr _ => 0
def qVf (r : UInt32 ⊕ Nat) : UInt32 := match r with
  | .inl v => v
  | .inr _ => 0
end MQ2
