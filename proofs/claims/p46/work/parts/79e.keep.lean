/-! clear, undo, snapshot, restore -/
section MK
variable {w : FW} {M : Nat} {fl : Nat → Int32} {ar : Nat → Nat → Int32}
theorem cp_z {n : Nat} {g : Nat → Int32} : up (cp n (fun _ => 0) g) n 0 = cp (n + 1) (fun _ => 0) g := cp_s n (fun _ => 0) g
theorem m_row (hB : MB w M) {k : Nat} (c : Nat) (h : (c, k) ∈ [(501, 1), (502, 2), (503, 3), (504, 4), (507, 5), (508, 6), (509, 7), (510, 8)]) : gR w c M 0 = M + k ∧ w.1 (M + k) = 11 := by
  obtain ⟨zk0, zk1, zk2, zk3, zk4, zk5, zk6, zk7, zk8, zl1, zl2, zl3, zl4, zl5, zl6, zl7, zl8, zr1, zr2, zr3, zr4, zr5, zr6, zr7, zr8⟩ := id hB
  simp only [List.mem_cons, Prod.mk.injEq, List.not_mem_nil, or_false] at h
  rcases h with ⟨rfl, rfl⟩ | ⟨rfl, rfl⟩ | ⟨rfl, rfl⟩ | ⟨rfl, rfl⟩ | ⟨rfl, rfl⟩ | ⟨rfl, rfl⟩ | ⟨rfl, rfl⟩ | ⟨rfl, rfl⟩
  · exact ⟨zr1, zk1⟩
  · exact ⟨zr2, zk2⟩
  · exact ⟨zr3, zk3⟩
  · exact ⟨zr4, zk4⟩
  · exact ⟨zr5, zk5⟩
  · exact ⟨zr6, zk6⟩
  · exact ⟨zr7, zk7⟩
  · exact ⟨zr8, zk8⟩
theorem i177 {k : Nat} (hk : k < 177) (N : Nat) (hN : N = 177) : ¬ (nI k < 0 ∨ N ≤ (nI k).toNatClampNeg) := by
  subst hN
  exact nI_in hk (by decide)
theorem z177 (N : Nat) (hN : N = 177) : ¬ ((0 : Int32) < 0 ∨ N ≤ Int32.toNatClampNeg 0) := by
  subst hN
  decide
end MK

/-- nothing: an office that is empty -/
def A0 : Nat → Int32 := fun _ => 0
theorem A0_w : WA A0 := ⟨⟨0, by omega, rfl, fun t ht => by omega⟩, ⟨0, by omega, rfl, fun k hk => by omega, fun _ _ _ => rfl⟩, fun p _ => ⟨0, by omega, rfl⟩, ⟨0, by omega, rfl⟩, ⟨0, by omega, rfl⟩⟩
theorem A0_s : ∀ p, p < 5 → aShut A0 p = 0 := by
  intro p hp
  unfold aShut
  refine if_neg ?_
  show ¬ ((0 : Int32) >>> (nI p &&& 31)) &&& 1 = 1
  have : ∀ p, p < 5 → ¬ ((0 : Int32) >>> (nI p &&& 31)) &&& 1 = 1 := by decide +kernel
  exact this p hp
/-- the arrays matter in their first 177 entries -/
theorem CR.cg {w : FW} {x n : Nat} {A A' H S : Nat → Int32} {sv : Int32} (C : CR w x A n H sv S) (e : ∀ k, k < 177 → A' k = A k) : CR w x A' n H sv S := by
  obtain ⟨ci, c1, c2, c3, c4, c5, c6, c7, c8⟩ := C
  exact ⟨ci, c1.cg c2 e, c2.cg e, c3, c4, c5, c6, c7, c8⟩
theorem CR.cs {w : FW} {x n : Nat} {A H S S' : Nat → Int32} {sv : Int32} (C : CR w x A n H sv S) (e : ∀ k, k < 177 → S' k = S k) : CR w x A n H sv S' := by
  obtain ⟨ci, c1, c2, c3, c4, c5, c6, c7, c8⟩ := C
  exact ⟨ci, c1, c2, c3, c4, c5, c6, c7, fun z => ⟨(c8 z).1.cg (c8 z).2 e, (c8 z).2.cg e⟩⟩
/-- fewer are kept -/
theorem CR.less {w : FW} {x n m : Nat} {A H S : Nat → Int32} {sv : Int32} (C : CR w x A n H sv S) (hm : m ≤ n) : CR (sI w 405 x 0 (nI m)) x A m H sv S ∧ KP w (sI w 405 x 0 (nI m)) x ∧ ∀ j, OFF (sI w 405 x 0 (nI m)) x j = OFF w x j := by
  obtain ⟨ci, c1, c2, c3, c4, c5, c6, c7, c8⟩ := C
  have hf : Fr w (sI w 405 x 0 (nI m)) (fun a => a = x) := Fr.sI _ _ _ _ _ rfl
  have cN := ci.num (w' := sI w 405 x 0 (nI m)) rfl rfl (fun _ _ _ => rfl) (fun a i _ => by rw [gI_sI, if_neg (by omega)])
  have o0 := ci.off (j := 0) (by omega)
  refine ⟨⟨cN.1, ?_, c2, gI_s _ _ _ _ _, by omega, fun i hi => ?_, by rw [gI_sI, if_neg (by omega)]; exact c6, c7, fun z => ?_⟩, ⟨fun c hc => by rw [gI_sI, if_neg (by omega)], fun a ha i => by rw [gI_sI, if_neg (by omega)], rfl, rfl, fun c a i ha => by rw [gI_sI, if_neg (by omega)], fun _ _ _ _ => rfl⟩, cN.2⟩
  · rw [cN.2]
    exact c1.fr o0.1 c2.n8 hf (fun q q1 q2 => by omega)
  · rw [cN.2]
    have oi := ci.off (j := 3 + i) (by omega)
    exact ⟨(c5 i (by omega)).1.fr oi.1 (c5 i (by omega)).2.n8 hf (fun q q1 q2 => by omega), (c5 i (by omega)).2⟩
  · have o2 := ci.off (j := 2) (by omega)
    exact ⟨(c8 z).1.fr o2.1 (c8 z).2.n8 hf (fun q q1 q2 => by omega), (c8 z).2⟩
/-- the office takes what another office is -/
theorem CR.take {w : FW} {x n j : Nat} {A B H S : Nat → Int32} {sv : Int32} (C : CR w x A n H sv S) (hj : j < 11) (h0 : ¬ j = 0) (hB : OR w (OFF w x j) B) (hW : WA B) : ∃ w', F_X1_take (OFF w x 0) (OFF w x j) w = some w' ∧ CR w' x B n H sv S ∧ (∀ j, OFF w' x j = OFF w x j) ∧ KP w w' x := by
  have ci := C.1
  obtain ⟨w1, e1, f1, s1, g1⟩ := c_otake (ci.off (j := 0) (by omega)).1 ⟨(ci.off hj).1, hB, hW⟩ (ci.dj (by omega) hj (fun z => h0 z.symm))
  obtain ⟨C2, ho, K2, -⟩ := C.act f1 s1 g1 hW
  exact ⟨w1, e1, C2, ho, K2⟩
theorem c_undo0 {w : FW} {x : Nat} {A H S : Nat → Int32} {sv : Int32} (C : CR w x A 0 H sv S) : F_X4_undo x w = some (.inr 0, w) := by
  unfold F_X4_undo
  rw [fg_t C.1.1, C.2.2.2.1, if_neg (by decide)]
theorem c_undo1 {w : FW} {x m : Nat} {A H S : Nat → Int32} {sv : Int32} (C : CR w x A (m + 1) H sv S) : ∃ w', F_X4_undo x w = some (.inl (nI m), w') ∧ CR w' x (fun k => H (177 * m + k)) m H sv S ∧ KP w w' x := by
  have h8 : m < 8 := by have := C.2.2.2.2.1; omega
  obtain ⟨C1, K1, ho1⟩ := C.less (Nat.le_succ m)
  have h5 := C.2.2.2.2.2.1 m (by omega)
  have om := C.1.off (j := 3 + m) (by omega)
  have hB : OR (sI w 405 x 0 (nI m)) (OFF (sI w 405 x 0 (nI m)) x (3 + m)) (fun k => H (177 * m + k)) := by
    rw [ho1]
    exact h5.1.fr om.1 h5.2.n8 (Fr.sI w 405 x 0 (nI m) (P := fun a => a = x) rfl) (fun q q1 q2 => by omega)
  obtain ⟨w1, e1, C2, -, K2⟩ := C1.take (j := 3 + m) (by omega) (by omega) hB h5.2
  refine ⟨w1, ?_, C2, K1.tr K2⟩
  have a3 : gR w 404 x 0 = x + 139 := C.1.2.2.1
  have a4 : w.1 (x + 139) = 13 := C.1.2.2.2.1
  have a5 : w.2.1 (x + 139) = 8 := C.1.2.2.2.2.1
  unfold F_X4_undo
  rw [fg_t C.1.1, C.2.2.2.1, if_pos (show 0 < nI (m + 1) from (nI_ltI (a := 0) (b := m + 1) (by omega) (by omega)).mpr (by omega)), nI_pred, gI_s]
  rw [gR_sI, gR_sI, a3, fg_t a4, a5, fg_t (nI_in (by omega) (by decide)), nI_clamp (by omega)]
  refine (fg_t (C.1.off (j := 0) (by omega)).1.1).trans ?_
  have e2 : OFF (sI w 405 x 0 (nI m)) x (3 + m) = gR w 603 (x + 139) m := by
    rw [ho1, OFF_p _ _ (by omega), show 3 + m - 3 = m by omega]
  rw [e2] at e1
  rw [gR_sI, a3]
  refine ob e1 ?_
  rw [C2.2.2.2.1]
theorem c_restore0 {w : FW} {x n : Nat} {A H S : Nat → Int32} (C : CR w x A n H 0 S) : F_X4_restore x w = some (.inr 0, w) := by
  unfold F_X4_restore
  rw [fg_t C.1.1, C.2.2.2.2.2.2.1, if_pos rfl]
theorem c_restore1 {w : FW} {x n : Nat} {A H S : Nat → Int32} (C : CR w x A n H 1 S) : ∃ w', F_X4_restore x w = some (.inl (S 0), w') ∧ CR w' x S 0 H 1 S ∧ KP w w' x := by
  have h8 := C.2.2.2.2.2.2.2.2 rfl
  obtain ⟨w1, e1, C2, ho, K2⟩ := C.take (j := 2) (by omega) (by omega) h8.1 h8.2
  obtain ⟨C3, K3, ho3⟩ := C2.less (Nat.zero_le _)
  refine ⟨_, ?_, C3, K2.tr K3⟩
  have a2 : gR w 402 x 0 = x + 93 := C.1.2.1
  unfold F_X4_restore
  rw [fg_t C.1.1, C.2.2.2.2.2.2.1, if_neg (by decide)]
  refine (fg_t (C.1.off (j := 0) (by omega)).1.1).trans ?_
  rw [a2]
  refine ob e1 ?_
  refine (fg_t (by rw [← K2.2.2.1]; exact (C2.1.off (j := 0) (by omega)).1.1)).trans ?_
  have e3 : gI (sI w1 405 x 0 0) 101 (gR (sI w1 405 x 0 0) 400 x 0) 0 = S 0 := C3.K.g.1
  rw [e3]
  rfl
theorem c_snapshot {w : FW} {x n : Nat} {A H S : Nat → Int32} {sv : Int32} (C : CR w x A n H sv S) : ∃ w', F_X4_snapshot x w = some (A 0, w') ∧ CR w' x A n H 1 A ∧ (∀ c, ¬ c = 405 → ¬ c = 403 → gI w' c x 0 = gI w c x 0) ∧ (∀ a, a = x + 142 ∨ a = x + 143 → ∀ i, gI w' 600 a i = gI w 600 a i) ∧ w'.1 = w.1 ∧ w'.2.1 = w.2.1 ∧ (∀ c a i, x + 512 ≤ a → gI w' c a i = gI w c a i) ∧ ∀ c a i, x + 512 ≤ a → gR w' c a i = gR w c a i := by
  obtain ⟨ci, c1, c2, c3, c4, c5, c6, c7, c8⟩ := id C
  have o0 := ci.off (j := 0) (by omega)
  have o2 := ci.off (j := 2) (by omega)
  obtain ⟨w1, e1, f1, s1, g1⟩ := c_otake o2.1 C.K (ci.dj (j := 2) (k := 0) (by omega) (by omega) (by omega))
  have cN := ci.of (j := 2) (by omega) f1 s1
  have K1 : KP w w1 x := KP.fr f1 (by omega) (by omega) (by omega)
  have hf : Fr w1 (sI w1 403 x 0 1) (fun a => a = x) := Fr.sI _ _ _ _ _ rfl
  have cM := cN.1.num (w' := sI w1 403 x 0 1) rfl rfl (fun _ _ _ => rfl) (fun a i _ => by rw [gI_sI, if_neg (by omega)])
  have eo : ∀ j, OFF (sI w1 403 x 0 1) x j = OFF w x j := fun j => (cM.2 j).trans (cN.2 j)
  have keep : ∀ j B, j < 11 → ¬ j = 2 → OR w (OFF w x j) B → WA B → OR (sI w1 403 x 0 1) (OFF w x j) B := fun j B hj hne hB hW => by
    have oj := ci.off hj
    have dj := ci.dj (j := 2) (by omega) hj (fun z => hne z.symm)
    have h1 : OR w1 (OFF w x j) B := hB.fr oj.1 hW.n8 f1 (fun q q1 q2 z => by obtain ⟨z1, z2⟩ := z; omega)
    have s1' : OS w1 (OFF w x j) := oj.1.fr f1 (fun q q1 q2 z => by obtain ⟨z1, z2⟩ := z; omega)
    exact h1.fr s1' hW.n8 hf (fun q q1 q2 => by omega)
  have C2 : CR (sI w1 403 x 0 1) x A n H 1 A := by
    refine ⟨cM.1, by rw [eo]; exact keep 0 A (by omega) (by omega) c1 c2, c2, ?_, c4, fun i hi => ?_, gI_s _ _ _ _ _, Or.inr rfl, fun _ => ⟨?_, c2⟩⟩
    · rw [gI_sI, if_neg (by omega)]
      exact (f1.2.2.1 _ _ _ (fun z => by obtain ⟨z1, z2⟩ := z; omega)).trans c3
    · rw [eo]
      exact ⟨keep _ _ (by omega) (by omega) (c5 i hi).1 (c5 i hi).2, (c5 i hi).2⟩
    · exact g1.fr s1 c2.n8 hf (fun q q1 q2 => by change x + 93 ≤ q at q1; omega)
  refine ⟨sI w1 403 x 0 1, ?_, C2, fun c h1 h2 => by rw [gI_sI, if_neg (by omega)]; exact K1.1 c h1, fun a ha i => by rw [gI_sI, if_neg (by omega)]; exact K1.2.1 a ha i, K1.2.2.1, K1.2.2.2.1, fun c a i ha => by rw [gI_sI, if_neg (by omega)]; exact K1.2.2.2.2.1 c a i ha, fun c a i ha => K1.2.2.2.2.2 c a i ha⟩
  have a2 : gR w 402 x 0 = x + 93 := ci.2.1
  unfold F_X4_snapshot
  rw [fg_t ci.1, a2]
  refine (fg_t o2.1.1).trans ?_
  refine ob e1 ?_
  refine (fg_t (by rw [← K1.2.2.1]; exact (cN.1.off (j := 0) (by omega)).1.1)).trans ?_
  have e3 : gI (sI w1 403 x 0 1) 101 (gR (sI w1 403 x 0 1) 400 x 0) 0 = A 0 := C2.K.g.1
  rw [e3]
/-- how class and reference stand behind a call -/
theorem JJ.fin {b b' : Nat} {w w' : FW} {x n n' : Nat} {fl fl' : Nat → Int32} {ar ar' : Nat → Nat → Int32} (hB : MB w (x + 512)) (hfl : flW w (x + 512) = fl) (har : arW w (x + 512) = ar) (J : JP b w x fl ar n) (K : KP w w' x) (C' : CR w' x (ar' 1) n' (ar' 4) (fl' 506) (ar' 3)) (h5 : fl' 505 = nI n') (hf : ∀ c, (c = 511 ∨ c = 512 ∨ c = 513 ∨ c = 514 ∨ c = 515 ∨ c = 516) → fl' c = fl c) (e5 : ar' 5 = ar 5) (e7 : ar' 7 = ar 7) (hD : DS b' fl' ar' n') : MB w' (x + 512) ∧ w' = mW w' (x + 512) fl ar ∧ JJ b' (mW w' (x + 512) fl' ar') x := by
  obtain ⟨m1, m2, m3⟩ := K.ref hB
  refine ⟨m1, ?_, JJ.mk m1 ⟨C', h5, J.2.2.1.to (fun c hc => K.1 c (by omega)) K.2.1 hf e5 e7, hD⟩⟩
  rw [← hfl, ← har, ← m2, ← m3]
  exact (mW_me w' _).symm
/-- what the law asks of a call that refuses nothing -/
def KI (b : Nat) (x : Nat) (cx : FW → Option (Int32 × FW)) (cm : FW → Option (Int32 × FW)) (w : FW) : Prop :=
  ∃ w2, (∃ (rx : Int32) (w1 : FW) (b9 : Int32), cx w = some (rx, w1) ∧ cm w1 = some (b9, w2) ∧ rx = b9) ∧ JJ b w2 x
section KKEEP
variable {b x : Nat} {w : FW}
end KKEEP
