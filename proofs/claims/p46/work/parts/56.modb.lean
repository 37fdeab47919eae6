/-! The reference's acts, on -/
theorem aT_n {A : Nat → Int32} {t e i : Nat} {v : Int32} (h : ¬ 17 + 20 * t + e = i) : aT (up A i v) t e = aT A t e := up_n h
theorem aH_n {A : Nat → Int32} {t h e i : Nat} {v : Int32} (hh : ¬ 17 + 20 * t + (12 + 4 * h + e) = i) : aH (up A i v) t h e = aH A t h e := up_n hh
theorem aL_n {A : Nat → Int32} {t k i : Nat} {v : Int32} (hh : ¬ 17 + 20 * t + (1 + k) = i) : aL (up A i v) t k = aL A t k := up_n hh
theorem aT_s (A : Nat → Int32) (t e : Nat) (v : Int32) : aT (up A (17 + 20 * t + e) v) t e = v := up_s _ _ _
theorem aH_s (A : Nat → Int32) (t h e : Nat) (v : Int32) : aH (up A (17 + 20 * t + (12 + 4 * h + e)) v) t h e = v := up_s _ _ _
theorem aLen_n {A : Nat → Int32} {t i : Nat} {v : Int32} (h : ¬ 17 + 20 * t + 0 = i) : aLen (up A i v) t = aLen A t := by
  unfold aLen
  rw [aT_n h]
theorem sub1h {h : Nat} (hh : h < 2) : (1 : Int32) - nI h = nI (1 - h) := by
  rcases (show h = 0 ∨ h = 1 by omega) with rfl | rfl <;> decide
section MB
variable {w : FW} {M : Nat} {fl : Nat → Int32} {ar : Nat → Nat → Int32}
end MB
