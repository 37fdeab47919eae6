/-! Four letters or fewer in one number -/
theorem or_8 (a c : Nat) (hc : c < 256) (ha : a < 2 ^ 23) : (nI a <<< (8 : Int32)) ||| nI c = nI (a * 256 + c) := by
  apply Int32.toBitVec_inj.mp
  apply BitVec.eq_of_toNat_eq
  have e8 : (8 : Int32).toBitVec.smod 32 = 8#32 := by decide
  have h1 : (nI a).toBitVec = BitVec.ofNat 32 a := rfl
  have h2 : (nI c).toBitVec = BitVec.ofNat 32 c := rfl
  have h3 : (nI (a * 256 + c)).toBitVec = BitVec.ofNat 32 (a * 256 + c) := rfl
  rw [Int32.toBitVec_or, Int32.toBitVec_shiftLeft, e8, h1, h2, h3]
  simp only [BitVec.toNat_or, BitVec.toNat_shiftLeft, BitVec.toNat_ofNat, BitVec.shiftLeft_eq']
  have e1 : a % 2 ^ 32 = a := Nat.mod_eq_of_lt (by omega)
  have e2 : c % 2 ^ 32 = c := Nat.mod_eq_of_lt (by omega)
  have e3 : 8 % 2 ^ 32 = 8 := by decide
  rw [e1, e2, e3, Nat.shiftLeft_eq, Nat.mod_eq_of_lt (show a * 2 ^ 8 < 2 ^ 32 by omega), Nat.mod_eq_of_lt (show a * 256 + c < 2 ^ 32 by omega), ← Nat.shiftLeft_eq, ← Nat.shiftLeft_add_eq_or_of_lt (show c < 2 ^ 8 by omega), Nat.shiftLeft_eq]
theorem shr_n (n s : Nat) (hn : n < 2 ^ 31) (hs : s < 32) (y : Int32) (hy : (y.toUInt32 &&& Int32.toUInt32 31).toBitVec.toNat = s) : (fushr (nI n) y) &&& 255 = nI (n / 2 ^ s % 256) := by
  apply Int32.toBitVec_inj.mp
  apply BitVec.eq_of_toNat_eq
  have h1 : (nI n).toUInt32.toBitVec = BitVec.ofNat 32 n := rfl
  have h3 : (nI (n / 2 ^ s % 256)).toBitVec = BitVec.ofNat 32 (n / 2 ^ s % 256) := rfl
  have h4 : (fushr (nI n) y).toBitVec = ((nI n).toUInt32 >>> (y.toUInt32 &&& Int32.toUInt32 31)).toBitVec := rfl
  have h5 : (255 : Int32).toBitVec = 255#32 := rfl
  have hlt : (y.toUInt32 &&& Int32.toUInt32 31).toBitVec.toNat % 32 = s := by rw [hy]; omega
  rw [Int32.toBitVec_and, h3, h4, h5, UInt32.toBitVec_shiftRight, h1]
  simp only [BitVec.toNat_and, BitVec.toNat_ushiftRight, BitVec.toNat_ofNat, BitVec.ushiftRight_eq', BitVec.toNat_umod]
  have e1 : n % 2 ^ 32 = n := Nat.mod_eq_of_lt (by omega)
  have e3 : 32 % 2 ^ 32 = 32 := by decide
  have e4 : 255 % 2 ^ 32 = 2 ^ 8 - 1 := by decide
  have h6 : n / 2 ^ s % 256 < 256 := Nat.mod_lt _ (by decide)
  rw [e1, show BitVec.toNat (32 : BitVec 32) = 32 from rfl, hlt, e4, Nat.shiftRight_eq_div_pow, Nat.and_two_pow_sub_one_eq_mod, Nat.mod_eq_of_lt (show n / 2 ^ s % 256 < 2 ^ 32 by omega)]
theorem apC_n (n : Nat) (hn : n < 2 ^ 31) : apC (nI n) 0 = nI (n / 2 ^ 24 % 256) ∧ apC (nI n) 1 = nI (n / 2 ^ 16 % 256) ∧ apC (nI n) 2 = nI (n / 2 ^ 8 % 256) ∧ apC (nI n) 3 = nI (n / 2 ^ 0 % 256) :=
  ⟨shr_n n 24 hn (by decide) _ (by decide), shr_n n 16 hn (by decide) _ (by decide), shr_n n 8 hn (by decide) _ (by decide), shr_n n 0 hn (by decide) _ (by decide)⟩
/-- what is read of one, two, three, four letters in one number -/
theorem apC_1 {c : Nat} (h : c < 127) : apC (nI c) 0 = nI 0 ∧ apC (nI c) 1 = nI 0 ∧ apC (nI c) 2 = nI 0 ∧ apC (nI c) 3 = nI c := by
  obtain ⟨h0, h1, h2, h3⟩ := apC_n c (by omega)
  exact ⟨h0.trans (by congr 1; omega), h1.trans (by congr 1; omega), h2.trans (by congr 1; omega), h3.trans (by congr 1; omega)⟩
theorem apC_2 {c d : Nat} (h : c < 127) (h' : d < 127) : apC (nI (c * 256 + d)) 0 = nI 0 ∧ apC (nI (c * 256 + d)) 1 = nI 0 ∧ apC (nI (c * 256 + d)) 2 = nI c ∧ apC (nI (c * 256 + d)) 3 = nI d := by
  obtain ⟨h0, h1, h2, h3⟩ := apC_n (c * 256 + d) (by omega)
  exact ⟨h0.trans (by congr 1; omega), h1.trans (by congr 1; omega), h2.trans (by congr 1; omega), h3.trans (by congr 1; omega)⟩
theorem apC_3 {c d e : Nat} (h : c < 127) (h' : d < 127) (h'' : e < 127) : apC (nI ((c * 256 + d) * 256 + e)) 0 = nI 0 ∧ apC (nI ((c * 256 + d) * 256 + e)) 1 = nI c ∧ apC (nI ((c * 256 + d) * 256 + e)) 2 = nI d ∧ apC (nI ((c * 256 + d) * 256 + e)) 3 = nI e := by
  obtain ⟨h0, h1, h2, h3⟩ := apC_n ((c * 256 + d) * 256 + e) (by omega)
  exact ⟨h0.trans (by congr 1; omega), h1.trans (by congr 1; omega), h2.trans (by congr 1; omega), h3.trans (by congr 1; omega)⟩
theorem apC_4 {c d e g : Nat} (h : c < 127) (h' : d < 127) (h'' : e < 127) (h3' : g < 127) : apC (nI (((c * 256 + d) * 256 + e) * 256 + g)) 0 = nI c ∧ apC (nI (((c * 256 + d) * 256 + e) * 256 + g)) 1 = nI d ∧ apC (nI (((c * 256 + d) * 256 + e) * 256 + g)) 2 = nI e ∧ apC (nI (((c * 256 + d) * 256 + e) * 256 + g)) 3 = nI g := by
  obtain ⟨h0, h1, h2, h3⟩ := apC_n (((c * 256 + d) * 256 + e) * 256 + g) (by omega)
  exact ⟨h0.trans (by congr 1; omega), h1.trans (by congr 1; omega), h2.trans (by congr 1; omega), h3.trans (by congr 1; omega)⟩
section APP
variable {w : FW} {x n L : Nat} {A H S : Nat → Int32} {sv : Int32} {f : Nat → Int32}
theorem let_ne {c : Nat} (h1 : 32 ≤ c) (h2 : c < 127) : ¬ nI c = 0 ∧ ¬ inn (nI c) 32 126 = 0 := by
  refine ⟨nI_ne0 (by omega) (by omega), ?_⟩
  unfold inn
  rw [if_neg (show ¬ nI c < 32 from nI_nlt (b := 32) h1 (by omega)), if_neg (show ¬ 126 < nI c from nI_nlt (b := c) (a := 126) (by omega) (by decide))]
  decide
theorem ap_1 {a : Int32} {c0 : Nat} (h : apC a 0 = nI 0 ∧ apC a 1 = nI 0 ∧ apC a 2 = nI 0 ∧ apC a 3 = nI c0) (hc0 : 32 ≤ c0 ∧ c0 < 127) : (∀ k, k < 4 → ¬ apBad a k) ∧ cn a 4 = 1 ∧ apF a L f 4 = up f (L + 0) (nI c0) := by
  obtain ⟨e0, e1, e2, e3⟩ := h
  obtain ⟨nc0, mc0⟩ := let_ne hc0.1 hc0.2
  have k0 : cn a 0 = 0 := rfl
  have q0 : apF a L f 0 = f := rfl
  have k1 : cn a 1 = 0 := by rw [cn_s0 (by rw [e0]; rfl), k0]
  have q1 : apF a L f 1 = f := by
    show (if apC a 0 = 0 then apF a L f 0 else _) = _
    rw [if_pos (by rw [e0]; rfl), q0]
  have k2 : cn a 2 = 0 := by rw [cn_s0 (by rw [e1]; rfl), k1]
  have q2 : apF a L f 2 = f := by
    show (if apC a 1 = 0 then apF a L f 1 else _) = _
    rw [if_pos (by rw [e1]; rfl), q1]
  have k3 : cn a 3 = 0 := by rw [cn_s0 (by rw [e2]; rfl), k2]
  have q3 : apF a L f 3 = f := by
    show (if apC a 2 = 0 then apF a L f 2 else _) = _
    rw [if_pos (by rw [e2]; rfl), q2]
  have k4 : cn a 4 = 1 := by rw [cn_s1 (by rw [e3]; exact nc0), k3]
  have q4 : apF a L f 4 = up f (L + 0) (nI c0) := by
    show (if apC a 3 = 0 then _ else up (apF a L f 3) (L + cn a 3) (apC a 3)) = _
    rw [if_neg (by rw [e3]; exact nc0), q3, k3, e3]
  refine ⟨fun k hk => ?_, k4, q4⟩
  have : k = 0 ∨ k = 1 ∨ k = 2 ∨ k = 3 := by omega
  rcases this with y | y | y | y <;> subst y
  · exact fun z => z.1 e0
  · exact fun z => z.1 e1
  · exact fun z => z.1 e2
  · exact fun z => mc0 (by rw [← e3]; exact z.2)
theorem ap_2 {a : Int32} {c0 c1 : Nat} (h : apC a 0 = nI 0 ∧ apC a 1 = nI 0 ∧ apC a 2 = nI c0 ∧ apC a 3 = nI c1) (hc0 : 32 ≤ c0 ∧ c0 < 127) (hc1 : 32 ≤ c1 ∧ c1 < 127) : (∀ k, k < 4 → ¬ apBad a k) ∧ cn a 4 = 2 ∧ apF a L f 4 = up (up f (L + 0) (nI c0)) (L + 1) (nI c1) := by
  obtain ⟨e0, e1, e2, e3⟩ := h
  obtain ⟨nc0, mc0⟩ := let_ne hc0.1 hc0.2
  obtain ⟨nc1, mc1⟩ := let_ne hc1.1 hc1.2
  have k0 : cn a 0 = 0 := rfl
  have q0 : apF a L f 0 = f := rfl
  have k1 : cn a 1 = 0 := by rw [cn_s0 (by rw [e0]; rfl), k0]
  have q1 : apF a L f 1 = f := by
    show (if apC a 0 = 0 then apF a L f 0 else _) = _
    rw [if_pos (by rw [e0]; rfl), q0]
  have k2 : cn a 2 = 0 := by rw [cn_s0 (by rw [e1]; rfl), k1]
  have q2 : apF a L f 2 = f := by
    show (if apC a 1 = 0 then apF a L f 1 else _) = _
    rw [if_pos (by rw [e1]; rfl), q1]
  have k3 : cn a 3 = 1 := by rw [cn_s1 (by rw [e2]; exact nc0), k2]
  have q3 : apF a L f 3 = up f (L + 0) (nI c0) := by
    show (if apC a 2 = 0 then _ else up (apF a L f 2) (L + cn a 2) (apC a 2)) = _
    rw [if_neg (by rw [e2]; exact nc0), q2, k2, e2]
  have k4 : cn a 4 = 2 := by rw [cn_s1 (by rw [e3]; exact nc1), k3]
  have q4 : apF a L f 4 = up (up f (L + 0) (nI c0)) (L + 1) (nI c1) := by
    show (if apC a 3 = 0 then _ else up (apF a L f 3) (L + cn a 3) (apC a 3)) = _
    rw [if_neg (by rw [e3]; exact nc1), q3, k3, e3]
  refine ⟨fun k hk => ?_, k4, q4⟩
  have : k = 0 ∨ k = 1 ∨ k = 2 ∨ k = 3 := by omega
  rcases this with y | y | y | y <;> subst y
  · exact fun z => z.1 e0
  · exact fun z => z.1 e1
  · exact fun z => mc0 (by rw [← e2]; exact z.2)
  · exact fun z => mc1 (by rw [← e3]; exact z.2)
theorem ap_3 {a : Int32} {c0 c1 c2 : Nat} (h : apC a 0 = nI 0 ∧ apC a 1 = nI c0 ∧ apC a 2 = nI c1 ∧ apC a 3 = nI c2) (hc0 : 32 ≤ c0 ∧ c0 < 127) (hc1 : 32 ≤ c1 ∧ c1 < 127) (hc2 : 32 ≤ c2 ∧ c2 < 127) : (∀ k, k < 4 → ¬ apBad a k) ∧ cn a 4 = 3 ∧ apF a L f 4 = up (up (up f (L + 0) (nI c0)) (L + 1) (nI c1)) (L + 2) (nI c2) := by
  obtain ⟨e0, e1, e2, e3⟩ := h
  obtain ⟨nc0, mc0⟩ := let_ne hc0.1 hc0.2
  obtain ⟨nc1, mc1⟩ := let_ne hc1.1 hc1.2
  obtain ⟨nc2, mc2⟩ := let_ne hc2.1 hc2.2
  have k0 : cn a 0 = 0 := rfl
  have q0 : apF a L f 0 = f := rfl
  have k1 : cn a 1 = 0 := by rw [cn_s0 (by rw [e0]; rfl), k0]
  have q1 : apF a L f 1 = f := by
    show (if apC a 0 = 0 then apF a L f 0 else _) = _
    rw [if_pos (by rw [e0]; rfl), q0]
  have k2 : cn a 2 = 1 := by rw [cn_s1 (by rw [e1]; exact nc0), k1]
  have q2 : apF a L f 2 = up f (L + 0) (nI c0) := by
    show (if apC a 1 = 0 then _ else up (apF a L f 1) (L + cn a 1) (apC a 1)) = _
    rw [if_neg (by rw [e1]; exact nc0), q1, k1, e1]
  have k3 : cn a 3 = 2 := by rw [cn_s1 (by rw [e2]; exact nc1), k2]
  have q3 : apF a L f 3 = up (up f (L + 0) (nI c0)) (L + 1) (nI c1) := by
    show (if apC a 2 = 0 then _ else up (apF a L f 2) (L + cn a 2) (apC a 2)) = _
    rw [if_neg (by rw [e2]; exact nc1), q2, k2, e2]
  have k4 : cn a 4 = 3 := by rw [cn_s1 (by rw [e3]; exact nc2), k3]
  have q4 : apF a L f 4 = up (up (up f (L + 0) (nI c0)) (L + 1) (nI c1)) (L + 2) (nI c2) := by
    show (if apC a 3 = 0 then _ else up (apF a L f 3) (L + cn a 3) (apC a 3)) = _
    rw [if_neg (by rw [e3]; exact nc2), q3, k3, e3]
  refine ⟨fun k hk => ?_, k4, q4⟩
  have : k = 0 ∨ k = 1 ∨ k = 2 ∨ k = 3 := by omega
  rcases this with y | y | y | y <;> subst y
  · exact fun z => z.1 e0
  · exact fun z => mc0 (by rw [← e1]; exact z.2)
  · exact fun z => mc1 (by rw [← e2]; exact z.2)
  · exact fun z => mc2 (by rw [← e3]; exact z.2)
theorem ap_4 {a : Int32} {c0 c1 c2 c3 : Nat} (h : apC a 0 = nI c0 ∧ apC a 1 = nI c1 ∧ apC a 2 = nI c2 ∧ apC a 3 = nI c3) (hc0 : 32 ≤ c0 ∧ c0 < 127) (hc1 : 32 ≤ c1 ∧ c1 < 127) (hc2 : 32 ≤ c2 ∧ c2 < 127) (hc3 : 32 ≤ c3 ∧ c3 < 127) : (∀ k, k < 4 → ¬ apBad a k) ∧ cn a 4 = 4 ∧ apF a L f 4 = up (up (up (up f (L + 0) (nI c0)) (L + 1) (nI c1)) (L + 2) (nI c2)) (L + 3) (nI c3) := by
  obtain ⟨e0, e1, e2, e3⟩ := h
  obtain ⟨nc0, mc0⟩ := let_ne hc0.1 hc0.2
  obtain ⟨nc1, mc1⟩ := let_ne hc1.1 hc1.2
  obtain ⟨nc2, mc2⟩ := let_ne hc2.1 hc2.2
  obtain ⟨nc3, mc3⟩ := let_ne hc3.1 hc3.2
  have k0 : cn a 0 = 0 := rfl
  have q0 : apF a L f 0 = f := rfl
  have k1 : cn a 1 = 1 := by rw [cn_s1 (by rw [e0]; exact nc0), k0]
  have q1 : apF a L f 1 = up f (L + 0) (nI c0) := by
    show (if apC a 0 = 0 then _ else up (apF a L f 0) (L + cn a 0) (apC a 0)) = _
    rw [if_neg (by rw [e0]; exact nc0), q0, k0, e0]
  have k2 : cn a 2 = 2 := by rw [cn_s1 (by rw [e1]; exact nc1), k1]
  have q2 : apF a L f 2 = up (up f (L + 0) (nI c0)) (L + 1) (nI c1) := by
    show (if apC a 1 = 0 then _ else up (apF a L f 1) (L + cn a 1) (apC a 1)) = _
    rw [if_neg (by rw [e1]; exact nc1), q1, k1, e1]
  have k3 : cn a 3 = 3 := by rw [cn_s1 (by rw [e2]; exact nc2), k2]
  have q3 : apF a L f 3 = up (up (up f (L + 0) (nI c0)) (L + 1) (nI c1)) (L + 2) (nI c2) := by
    show (if apC a 2 = 0 then _ else up (apF a L f 2) (L + cn a 2) (apC a 2)) = _
    rw [if_neg (by rw [e2]; exact nc2), q2, k2, e2]
  have k4 : cn a 4 = 4 := by rw [cn_s1 (by rw [e3]; exact nc3), k3]
  have q4 : apF a L f 4 = up (up (up (up f (L + 0) (nI c0)) (L + 1) (nI c1)) (L + 2) (nI c2)) (L + 3) (nI c3) := by
    show (if apC a 3 = 0 then _ else up (apF a L f 3) (L + cn a 3) (apC a 3)) = _
    rw [if_neg (by rw [e3]; exact nc3), q3, k3, e3]
  refine ⟨fun k hk => ?_, k4, q4⟩
  have : k = 0 ∨ k = 1 ∨ k = 2 ∨ k = 3 := by omega
  rcases this with y | y | y | y <;> subst y
  · exact fun z => mc0 (by rw [← e0]; exact z.2)
  · exact fun z => mc1 (by rw [← e1]; exact z.2)
  · exact fun z => mc2 (by rw [← e2]; exact z.2)
  · exact fun z => mc3 (by rw [← e3]; exact z.2)
theorem a_app {a : Int32} {j : Nat} {F : Nat → Int32} (C : CR w x A n H sv S) (h8 : gI w 408 x 0 = nI L) (hf : ∀ i, i < L → gI w 600 (x + 142) i = f i) (hp : (∀ k, k < 4 → ¬ apBad a k) ∧ cn a 4 = j ∧ apF a L f 4 = F) (h60 : L + j ≤ 60) : ∃ w', F_L_append x a w = some (nI (L + j), w') ∧ CR w' x A n H sv S ∧ gI w' 408 x 0 = nI (L + j) ∧ (∀ i, i < L + j → gI w' 600 (x + 142) i = F i) ∧ w'.1 = w.1 := by
  obtain ⟨p1, p2, p3⟩ := hp
  have e := p_append C h8 hf a p1 (by rw [p2]; exact h60)
  rw [p2, p3] at e
  refine ⟨cB w x (L + j) F, ?_, C.bfw _ _, ?_, fun i hi => ?_, rfl⟩
  · unfold F_L_append
    rw [fg_t C.1.1, e, Option.bind_some]
    rfl
  · rw [gI_cB, if_pos ⟨rfl, rfl, rfl⟩]
  · rw [gI_cB, if_neg (by omega), if_pos ⟨rfl, rfl, hi⟩]
end APP
