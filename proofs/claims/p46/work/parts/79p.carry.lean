/-! The class carries out an order -/
def dg (c : Int32) : Int32 := if c = 33 then -1 else c - 48
theorem dg_n {c : Int32} (h : ¬ c = 33) : dg c = c - 48 := if_neg h
def cR1 (f : Nat → Int32) (L p : Nat) : Int32 := if p + 1 < L then dg (f (p + 1)) else -1
def cX5 (f : Nat → Int32) (p q : Nat) : Int32 := if q ≤ p + 2 then 0 else if f (p + 2) = 114 then 1 else 0
theorem cX5_z {f : Nat → Int32} {p q : Nat} (h : p + 2 < q) : zz (cX5 f p q) = nI (hN f p) := by
  unfold cX5 hN
  rw [if_neg (by omega)]
  split <;> rfl
theorem bind_eta {α β : Type} {o : Option (α × β)} : o.bind (fun r => some (r.1, r.2)) = o := by
  cases o <;> rfl
section CCA
variable {w : FW} {x L : Nat} {f : Nat → Int32}
theorem BU.fr {w w' : FW} (B : BU w x L f) {Q : Nat → Prop} (hf : Fr w w' Q) (h0 : ¬ Q x) (h1 : ¬ Q (x + 142)) : BU w' x L f := by
  obtain ⟨b1, b2, b3, b4, b5, b6, b7⟩ := B
  exact ⟨by rw [hf.1]; exact b1, (hf.2.2.2 _ _ _ h0).trans b2, by rw [hf.1]; exact b3, by rw [hf.2.1]; exact b4, (hf.2.2.1 _ _ _ h0).trans b5, b6, fun i hi => ⟨(hf.2.2.1 _ _ _ h1).trans (b7 i hi).1, (b7 i hi).2⟩⟩
theorem c_digitAt (B : BU w x L f) {k : Nat} (hk : k < 1000) : F_X4_digitAt x (nI k) w = some (if k < L then dg (f k) else -1) := by
  unfold F_X4_digitAt dg
  rw [fg_t B.1, c_sign B (by omega), Option.bind_some]
  by_cases h : k < L
  · rw [if_pos h, if_pos h, ite_some]
  · rw [if_neg h, if_neg h, if_pos rfl]
theorem carry_head (B : BU w x L f) {p q : Nat} (hp : p < q) (hq : q ≤ L) : F_X4_carryOut x (nI p) (nI q) w = (if (f p) = 99 then (F_X4_tryPier x (cR1 f L p) 0 w).bind (fun r16 => some (r16.1, r16.2)) else (if (f p) = 100 then (F_X4_letDayGoBy x w).bind (fun r20 => some (r20.1, r20.2)) else (if (f p) = 101 then (F_X4_letDayGoBy x w).bind (fun r24 => some (r24.1, r24.2)) else (if (f p) = 102 then (F_X4_tryLost x (cR1 f L p) (cX5 f p q) 0 w).bind (fun r28 => some (r28.1, r28.2)) else (if (f p) = 103 then (F_X4_tryRide x (cR1 f L p) (cX5 f p q) w).bind (fun r32 => some (r32.1, r32.2)) else (if (f p) = 104 then (F_X4_letDayGoBy x w).bind (fun r36 => some (r36.1, r36.2)) else (if (f p) = 105 then (F_X4_letDayGoBy x w).bind (fun r40 => some (r40.1, r40.2)) else (if (f p) = 106 then (F_X4_letDayGoBy x w).bind (fun r44 => some (r44.1, r44.2)) else (if (f p) = 107 then (F_X4_letDayGoBy x w).bind (fun r48 => some (r48.1, r48.2)) else (if (f p) = 108 then (F_X4_tryLost x (cR1 f L p) (cX5 f p q) 1 w).bind (fun r52 => some (r52.1, r52.2)) else (if (f p) = 109 then (F_X4_tryMood x (cR1 f L p) (dg (f (q - 1))) w).bind (fun r56 => some (r56.1, r56.2)) else (if (f p) = 110 then (F_X4_carryOutPrint x (nI p) (nI q) w).bind (fun r60 => some (r60.1, r60.2)) else (if (f p) = 111 then (F_X4_tryPier x (cR1 f L p) 1 w).bind (fun r64 => some (r64.1, r64.2)) else (if (f p) = 112 then (F_X4_tryPunch x (cR1 f L p) (cX5 f p q) (dg (f (q - 1))) w).bind (fun r68 => some (r68.1, r68.2)) else (if (f p) = 113 then (F_X4_letDayGoBy x w).bind (fun r72 => some (r72.1, r72.2)) else (if (f p) = 114 then (F_X4_letDayGoBy x w).bind (fun r76 => some (r76.1, r76.2)) else (if (f p) = 115 then (F_X4_letDayGoBy x w).bind (fun r80 => some (r80.1, r80.2)) else (if (f p) = 116 then (F_X4_tryTear x (cR1 f L p) w).bind (fun r84 => some (r84.1, r84.2)) else (if (f p) = 117 then (F_X4_letDayGoBy x w).bind (fun r88 => some (r88.1, r88.2)) else (if (f p) = 118 then (F_X4_letDayGoBy x w).bind (fun r92 => some (r92.1, r92.2)) else (if (f p) = 119 then (F_X4_tryWet x (cR1 f L p) (cX5 f p q) (dg (f (q - 1))) w).bind (fun r96 => some (r96.1, r96.2)) else (if (f p) = 120 then (F_X4_tryThrowAway x (cR1 f L p) w).bind (fun r100 => some (r100.1, r100.2)) else (F_X4_letDayGoBy x w).bind (fun r103 => some (r103.1, r103.2)))))))))))))))))))))))) := by
  have B' := B
  obtain ⟨b1, b2, b3, b4, b5, b6, b7⟩ := B'
  have e1 : nI p + 1 = nI (p + 1) := nI_1 p
  have e2 : nI p + 2 = nI (p + 2) := by rw [show (2 : Int32) = nI 2 from rfl, nI_add]
  have e3 : nI q - 1 = nI (q - 1) := by
    cases q with
    | zero => omega
    | succ q => exact nI_pred q
  have ed : F_X4_digitAt x (nI (q - 1)) w = some (dg (f (q - 1))) := by
    rw [c_digitAt B (by omega), if_pos (by omega)]
  have ex : ((if (nI q) ≤ (nI (p + 2)) then some 0 else (F_X4_signAt x (nI (p + 2)) w).bind (fun r107 => (if r107 = 114 then some 1 else some 0))) : Option (Int32)) = some (cX5 f p q) := by
    unfold cX5
    by_cases h : q ≤ p + 2
    · rw [if_pos (nI_le h (by omega)), if_pos h]
    · rw [if_neg (nI_ge (by omega) (by omega)), if_neg h, c_sign B (by omega), Option.bind_some, if_pos (show p + 2 < L by omega), ite_some]
  unfold F_X4_carryOut
  rw [fg_t b1, e1, c_digitAt B (by omega), Option.bind_some, e2, ex, Option.bind_some, e3, ed, Option.bind_some, c_sign B (by omega), Option.bind_some, if_pos (show p < L by omega)]
  rfl
end CCA
/-- what is told of a word is changed -/
theorem CR.told {w w0 : FW} {x n : Nat} {A H S : Nat → Int32} {sv : Int32} (C : CR w x A n H sv S) (hf : Fr w w0 (bl (x + 140) 2)) (hs : WS w0 (x + 140)) : CR w0 x A n H sv S ∧ (∀ j, OFF w0 x j = OFF w x j) ∧ KP w w0 x ∧ ∀ B, OR w (OFF w x 1) B → WA B → OR w0 (OFF w x 1) B := by
  obtain ⟨ci, c1, c2, c3, c4, c5, c6, c7, c8⟩ := C
  obtain ⟨a1, a2, a3, a4, a5, a6, a7, a8, a9, a10, a11, a12, a13, h1, h2, h3⟩ := id ci
  have nb : ∀ q, ¬ (x + 140 ≤ q ∧ q < x + 142) → ¬ bl (x + 140) 2 q := fun q h z => h (by obtain ⟨z1, z2⟩ := z; omega)
  have eo : ∀ k, OFF w0 x k = OFF w x k := fun k => by
    unfold OFF
    rw [hf.2.2.2 _ _ _ (nb x (by omega)), hf.2.2.2 _ _ _ (nb x (by omega)), hf.2.2.2 _ _ _ (nb (x + 139) (by omega))]
  have cN : CI w0 x := ⟨by rw [hf.1]; exact a1, by rw [hf.2.2.2 _ _ _ (nb x (by omega))]; exact a2, by rw [hf.2.2.2 _ _ _ (nb x (by omega))]; exact a3, by rw [hf.1]; exact a4, by rw [hf.2.1]; exact a5, by rw [hf.2.2.2 _ _ _ (nb x (by omega))]; exact a6, hs, by rw [hf.2.2.2 _ _ _ (nb x (by omega))]; exact a8, by rw [hf.1]; exact a9, by rw [hf.2.1]; exact a10, by rw [hf.2.2.2 _ _ _ (nb x (by omega))]; exact a11, by rw [hf.1]; exact a12, by rw [hf.2.1]; exact a13, fun i hi => (h1 i hi).fr hf (fun q q1 q2 => nb q (by have := bs_r x i hi; omega)), fun k hk => by rw [eo]; exact h2 k hk, fun k l hk hl => by rw [eo, eo]; exact h3 k l hk hl⟩
  have keep : ∀ j B, j < 11 → OR w (OFF w x j) B → WA B → OR w0 (OFF w x j) B := fun j B hj hr hA => hr.fr (ci.off hj).1 hA.n8 hf (fun q q1 q2 => nb q (by have := ci.off hj; omega))
  refine ⟨⟨cN, by rw [eo]; exact keep 0 A (by omega) c1 c2, c2, (hf.2.2.1 _ _ _ (nb x (by omega))).trans c3, c4, fun i hi => ?_, (hf.2.2.1 _ _ _ (nb x (by omega))).trans c6, c7, fun z => ⟨keep 2 S (by omega) (c8 z).1 (c8 z).2, (c8 z).2⟩⟩, eo, ⟨fun c _ => hf.2.2.1 _ _ _ (nb x (by omega)), fun a ha i => hf.2.2.1 _ _ _ (nb a (by omega)), hf.1, hf.2.1, fun c a i ha => hf.2.2.1 _ _ _ (nb a (by omega)), fun c a i ha => hf.2.2.2 _ _ _ (nb a (by omega))⟩, fun B hB hW => keep 1 B (by omega) hB hW⟩
  rw [eo]
  exact ⟨keep _ _ (by omega) (c5 i hi).1 (c5 i hi).2, (c5 i hi).2⟩
section CCB
variable {w : FW} {x L n : Nat} {f A H S : Nat → Int32} {sv : Int32}
/-- a world in which an order's act is tried -/
def TW (w w0 : FW) (x n : Nat) (A H : Nat → Int32) (sv : Int32) (S : Nat → Int32) : Prop := CR w0 x A n H sv S ∧ (∀ j, OFF w0 x j = OFF w x j) ∧ KP w w0 x ∧ ∀ B, OR w (OFF w x 1) B → WA B → OR w0 (OFF w x 1) B
theorem c_word (C : CR w x A n H sv S) (B : BU w x L f) (hfr : ∀ i, i < L → ∃ c, 32 ≤ c ∧ c ≤ 126 ∧ f i = nI c) {p g q : Nat} (hq : q = p + g + 7) (hqL : q ≤ L) (h6 : g ≤ 6) : ∃ w0, fLoop (σ := Int32 × FW) (ρ := FW) (fun s3 => (if ((nI q) - 6) ≤ s3.1 then some (.inr s3.2) else (F_X4_signAt x s3.1 s3.2).bind (fun r13 => fg (w.1 (gR s3.2 406 x 0) = 4) inferInstance ((F_X3_add (gR s3.2 406 x 0) r13 s3.2).bind (fun r16 => some (.inl ((s3.1 + 1), r16))))))) (nI (p + 1), sI w 301 (x + 140) 0 0) = some w0 ∧ Fr w w0 (bl (x + 140) 2) ∧ WS w0 (x + 140) ∧ WR w0 (x + 140) g (fun j => f (p + 1 + j)) := by
  have B' := B
  obtain ⟨b1, b2, b3, b4, b5, b6, b7⟩ := B'
  have W : WS w (x + 140) := C.1.2.2.2.2.2.2.1
  have r6 : gR w 406 x 0 = x + 140 := C.1.2.2.2.2.2.1
  have e6 : nI q - 6 = nI (p + 1 + g) := by rw [show (6 : Int32) = nI 6 from rfl, nI_sub (by omega) (by omega)]; exact congrArg nI (by omega)
  have nx : ¬ bl (x + 140) 2 x := fun z => by obtain ⟨z1, z2⟩ := z; omega
  have nb : ¬ bl (x + 140) 2 (x + 142) := fun z => by obtain ⟨z1, z2⟩ := z; omega
  have h := fLoop_inv (σ := Int32 × FW) (ρ := FW) (f := (fun s3 => (if ((nI q) - 6) ≤ s3.1 then some (.inr s3.2) else (F_X4_signAt x s3.1 s3.2).bind (fun r13 => fg (w.1 (gR s3.2 406 x 0) = 4) inferInstance ((F_X3_add (gR s3.2 406 x 0) r13 s3.2).bind (fun r16 => some (.inl ((s3.1 + 1), r16)))))))) (Q := fun w0 => Fr w w0 (bl (x + 140) 2) ∧ WS w0 (x + 140) ∧ WR w0 (x + 140) g (fun j => f (p + 1 + j))) (fun k s => ∃ w0, s = (nI (p + 1 + k), w0) ∧ Fr w w0 (bl (x + 140) 2) ∧ WS w0 (x + 140) ∧ WR w0 (x + 140) k (fun j => f (p + 1 + j))) g (s := (nI (p + 1), sI w 301 (x + 140) 0 0)) ⟨_, rfl, Fr.sI _ _ _ _ _ (bl_in (by omega) (by omega)), ⟨W.1, W.2.1, W.2.2.1, W.2.2.2.1, fun k hk => by rw [gI_sI, if_neg (by omega)]; exact W.2.2.2.2 k hk⟩, ⟨gI_s _ _ _ _ _, fun k hk => by omega⟩⟩ (fun k s hk hI => ?_) (fun s hI => ?_)
  · obtain ⟨w0, e, h1, h2, h3⟩ := h
    exact ⟨w0, e, h1, h2, h3⟩
  · obtain ⟨w0, rfl, f0, s0, g0⟩ := hI
    have Bk := B.fr f0 nx nb
    obtain ⟨c, c1, c2, c3⟩ := hfr (p + 1 + k) (by omega)
    have hfch : fch (f (p + 1 + k)) = f (p + 1 + k) := by rw [c3]; exact fch_n c (by omega)
    obtain ⟨w1, e1, f1, s1, g1⟩ := c_add s0 g0 (by omega) hfch
    refine ⟨(nI (p + 1 + (k + 1)), w1), ?_, w1, rfl, f0.tr f1, s1, g1.to (fun j hj => ?_)⟩
    · dsimp only
      rw [e6, if_neg (nI_ge (by omega) (by omega)), c_sign Bk (by omega), Option.bind_some, if_pos (show p + 1 + k < L by omega)]
      have r6' : gR w0 406 x 0 = x + 140 := (f0.2.2.2 _ _ _ nx).trans r6
      rw [r6']
      refine (fg_t W.1).trans ?_
      rw [e1, Option.bind_some, nI_1]
      rfl
    · by_cases z : j = k
      · rw [if_pos z, z]
      · rw [if_neg z]
  · obtain ⟨w0, rfl, f0, s0, g0⟩ := hI
    refine ⟨w0, ?_, f0, s0, g0⟩
    dsimp only
    rw [e6, if_pos (nI_le (Nat.le_refl _) (by omega))]
theorem c_carry (C : CR w x A n H sv S) (B : BU w x L f) (hfr : ∀ i, i < L → ∃ c, 32 ≤ c ∧ c ≤ 126 ∧ f i = nI c) {p q i : Nat} {T : Nat → Int32} (hp : p < q) (hq : q ≤ L) (hx : ∀ k, p ≤ k → k < q → ¬ f k = 33) (ho : OG f L p q T i) : ∃ w0, TW w w0 x n A H sv S ∧ CA w0 x (OFF w0 x 0) 1 (sAct f p q A) (F_X4_carryOut x (nI p) (nI q) w) := by
  have b6 := B.2.2.2.2.2.1
  have me : TW w w x n A H sv S := ⟨C, fun _ => rfl, KP.rf _ _, fun _ h _ => h⟩
  have X : XO w x (OFF w x 0) A := C.X
  have r1 : p + 1 < q → cR1 f L p = f (p + 1) - 48 := fun h => by unfold cR1; rw [if_pos (by omega), dg_n (hx _ (by omega) h)]
  rw [carry_head B hp hq, dg_n (hx (q - 1) (by omega) (by omega))]
  rcases ho with ⟨h, -, hq9⟩ | ⟨h, -, -, hq9⟩ | ⟨h, -, -, -, hq9⟩ | ⟨h, -, -, -, hq9⟩ | ⟨h, -, -, -, -, hq9⟩ | ⟨h, -, g, d, hg, hg1, hd, hdf, -, -, -, h58, hq9⟩
  · refine ⟨w, me, ?_⟩
    rw [sA_100 h, h, if_neg (show ¬ (100 : Int32) = 99 by decide), if_pos rfl, bind_eta]
    exact t_day X
  · rcases h with h | h | h | h
    · refine ⟨w, me, ?_⟩
      rw [sA_99 h, h, if_pos rfl, r1 (by omega), bind_eta]
      exact t_pier X _ (Or.inl rfl)
    · refine ⟨w, me, ?_⟩
      rw [sA_111 h, h, if_neg (show ¬ (111 : Int32) = 99 by decide), if_neg (show ¬ (111 : Int32) = 100 by decide), if_neg (show ¬ (111 : Int32) = 101 by decide), if_neg (show ¬ (111 : Int32) = 102 by decide), if_neg (show ¬ (111 : Int32) = 103 by decide), if_neg (show ¬ (111 : Int32) = 104 by decide), if_neg (show ¬ (111 : Int32) = 105 by decide), if_neg (show ¬ (111 : Int32) = 106 by decide), if_neg (show ¬ (111 : Int32) = 107 by decide), if_neg (show ¬ (111 : Int32) = 108 by decide), if_neg (show ¬ (111 : Int32) = 109 by decide), if_neg (show ¬ (111 : Int32) = 110 by decide), if_pos rfl, r1 (by omega), bind_eta]
      exact t_pier X _ (Or.inr rfl)
    · refine ⟨w, me, ?_⟩
      rw [sA_116 h, h, if_neg (show ¬ (116 : Int32) = 99 by decide), if_neg (show ¬ (116 : Int32) = 100 by decide), if_neg (show ¬ (116 : Int32) = 101 by decide), if_neg (show ¬ (116 : Int32) = 102 by decide), if_neg (show ¬ (116 : Int32) = 103 by decide), if_neg (show ¬ (116 : Int32) = 104 by decide), if_neg (show ¬ (116 : Int32) = 105 by decide), if_neg (show ¬ (116 : Int32) = 106 by decide), if_neg (show ¬ (116 : Int32) = 107 by decide), if_neg (show ¬ (116 : Int32) = 108 by decide), if_neg (show ¬ (116 : Int32) = 109 by decide), if_neg (show ¬ (116 : Int32) = 110 by decide), if_neg (show ¬ (116 : Int32) = 111 by decide), if_neg (show ¬ (116 : Int32) = 112 by decide), if_neg (show ¬ (116 : Int32) = 113 by decide), if_neg (show ¬ (116 : Int32) = 114 by decide), if_neg (show ¬ (116 : Int32) = 115 by decide), if_pos rfl, r1 (by omega), bind_eta]
      exact t_tear X _
    · refine ⟨w, me, ?_⟩
      rw [sA_120 h, h, if_neg (show ¬ (120 : Int32) = 99 by decide), if_neg (show ¬ (120 : Int32) = 100 by decide), if_neg (show ¬ (120 : Int32) = 101 by decide), if_neg (show ¬ (120 : Int32) = 102 by decide), if_neg (show ¬ (120 : Int32) = 103 by decide), if_neg (show ¬ (120 : Int32) = 104 by decide), if_neg (show ¬ (120 : Int32) = 105 by decide), if_neg (show ¬ (120 : Int32) = 106 by decide), if_neg (show ¬ (120 : Int32) = 107 by decide), if_neg (show ¬ (120 : Int32) = 108 by decide), if_neg (show ¬ (120 : Int32) = 109 by decide), if_neg (show ¬ (120 : Int32) = 110 by decide), if_neg (show ¬ (120 : Int32) = 111 by decide), if_neg (show ¬ (120 : Int32) = 112 by decide), if_neg (show ¬ (120 : Int32) = 113 by decide), if_neg (show ¬ (120 : Int32) = 114 by decide), if_neg (show ¬ (120 : Int32) = 115 by decide), if_neg (show ¬ (120 : Int32) = 116 by decide), if_neg (show ¬ (120 : Int32) = 117 by decide), if_neg (show ¬ (120 : Int32) = 118 by decide), if_neg (show ¬ (120 : Int32) = 119 by decide), if_pos rfl, r1 (by omega), bind_eta]
      exact t_away X _
  · rcases h with h | h | h
    · refine ⟨w, me, ?_⟩
      rw [sA_102 h, h, if_neg (show ¬ (102 : Int32) = 99 by decide), if_neg (show ¬ (102 : Int32) = 100 by decide), if_neg (show ¬ (102 : Int32) = 101 by decide), if_pos rfl, r1 (by omega), bind_eta]
      exact t_lost X _ (hN_2 _ _) (cX5_z (by omega)) (Or.inl rfl)
    · refine ⟨w, me, ?_⟩
      rw [sA_103 h, h, if_neg (show ¬ (103 : Int32) = 99 by decide), if_neg (show ¬ (103 : Int32) = 100 by decide), if_neg (show ¬ (103 : Int32) = 101 by decide), if_neg (show ¬ (103 : Int32) = 102 by decide), if_pos rfl, r1 (by omega), bind_eta]
      exact t_ride X _ (hN_2 _ _) (cX5_z (by omega))
    · refine ⟨w, me, ?_⟩
      rw [sA_108 h, h, if_neg (show ¬ (108 : Int32) = 99 by decide), if_neg (show ¬ (108 : Int32) = 100 by decide), if_neg (show ¬ (108 : Int32) = 101 by decide), if_neg (show ¬ (108 : Int32) = 102 by decide), if_neg (show ¬ (108 : Int32) = 103 by decide), if_neg (show ¬ (108 : Int32) = 104 by decide), if_neg (show ¬ (108 : Int32) = 105 by decide), if_neg (show ¬ (108 : Int32) = 106 by decide), if_neg (show ¬ (108 : Int32) = 107 by decide), if_pos rfl, r1 (by omega), bind_eta]
      exact t_lost X _ (hN_2 _ _) (cX5_z (by omega)) (Or.inr rfl)
  · refine ⟨w, me, ?_⟩
    rw [sA_109 h, h, if_neg (show ¬ (109 : Int32) = 99 by decide), if_neg (show ¬ (109 : Int32) = 100 by decide), if_neg (show ¬ (109 : Int32) = 101 by decide), if_neg (show ¬ (109 : Int32) = 102 by decide), if_neg (show ¬ (109 : Int32) = 103 by decide), if_neg (show ¬ (109 : Int32) = 104 by decide), if_neg (show ¬ (109 : Int32) = 105 by decide), if_neg (show ¬ (109 : Int32) = 106 by decide), if_neg (show ¬ (109 : Int32) = 107 by decide), if_neg (show ¬ (109 : Int32) = 108 by decide), if_pos rfl, r1 (by omega), bind_eta]
    exact t_mood X _ _
  · rcases h with h | h
    · refine ⟨w, me, ?_⟩
      rw [sA_112 h, h, if_neg (show ¬ (112 : Int32) = 99 by decide), if_neg (show ¬ (112 : Int32) = 100 by decide), if_neg (show ¬ (112 : Int32) = 101 by decide), if_neg (show ¬ (112 : Int32) = 102 by decide), if_neg (show ¬ (112 : Int32) = 103 by decide), if_neg (show ¬ (112 : Int32) = 104 by decide), if_neg (show ¬ (112 : Int32) = 105 by decide), if_neg (show ¬ (112 : Int32) = 106 by decide), if_neg (show ¬ (112 : Int32) = 107 by decide), if_neg (show ¬ (112 : Int32) = 108 by decide), if_neg (show ¬ (112 : Int32) = 109 by decide), if_neg (show ¬ (112 : Int32) = 110 by decide), if_neg (show ¬ (112 : Int32) = 111 by decide), if_pos rfl, r1 (by omega), bind_eta]
      exact t_punch X _ (hN_2 _ _) (cX5_z (by omega)) _
    · refine ⟨w, me, ?_⟩
      rw [sA_119 h, h, if_neg (show ¬ (119 : Int32) = 99 by decide), if_neg (show ¬ (119 : Int32) = 100 by decide), if_neg (show ¬ (119 : Int32) = 101 by decide), if_neg (show ¬ (119 : Int32) = 102 by decide), if_neg (show ¬ (119 : Int32) = 103 by decide), if_neg (show ¬ (119 : Int32) = 104 by decide), if_neg (show ¬ (119 : Int32) = 105 by decide), if_neg (show ¬ (119 : Int32) = 106 by decide), if_neg (show ¬ (119 : Int32) = 107 by decide), if_neg (show ¬ (119 : Int32) = 108 by decide), if_neg (show ¬ (119 : Int32) = 109 by decide), if_neg (show ¬ (119 : Int32) = 110 by decide), if_neg (show ¬ (119 : Int32) = 111 by decide), if_neg (show ¬ (119 : Int32) = 112 by decide), if_neg (show ¬ (119 : Int32) = 113 by decide), if_neg (show ¬ (119 : Int32) = 114 by decide), if_neg (show ¬ (119 : Int32) = 115 by decide), if_neg (show ¬ (119 : Int32) = 116 by decide), if_neg (show ¬ (119 : Int32) = 117 by decide), if_neg (show ¬ (119 : Int32) = 118 by decide), if_pos rfl, r1 (by omega), bind_eta]
      exact t_wet X _ (hN_2 _ _) (cX5_z (by omega)) _
  · have g6 : g ≤ 6 := by rw [hg]; exact (lf_s f L (p + 1)).1
    obtain ⟨w0, e0, f0, s0, g0⟩ := c_word C B hfr hq9 hq g6
    obtain ⟨C0, ho0, K0, kp0⟩ := C.told f0 s0
    have B0 := B.fr f0 (fun z => by obtain ⟨z1, z2⟩ := z; omega) (fun z => by obtain ⟨z1, z2⟩ := z; omega)
    refine ⟨w0, ⟨C0, ho0, K0, kp0⟩, ?_⟩
    rw [sA_110 h, h, if_neg (show ¬ (110 : Int32) = 99 by decide), if_neg (show ¬ (110 : Int32) = 100 by decide), if_neg (show ¬ (110 : Int32) = 101 by decide), if_neg (show ¬ (110 : Int32) = 102 by decide), if_neg (show ¬ (110 : Int32) = 103 by decide), if_neg (show ¬ (110 : Int32) = 104 by decide), if_neg (show ¬ (110 : Int32) = 105 by decide), if_neg (show ¬ (110 : Int32) = 106 by decide), if_neg (show ¬ (110 : Int32) = 107 by decide), if_neg (show ¬ (110 : Int32) = 108 by decide), if_neg (show ¬ (110 : Int32) = 109 by decide), if_pos rfl, bind_eta]
    have r6 : gR w 406 x 0 = x + 140 := C.1.2.2.2.2.2.1
    have r60 : gR w0 406 x 0 = x + 140 := C0.1.2.2.2.2.2.1
    have e5 : nI q - 5 = nI (q - 5) := nI_sub (a := q) (b := 5) (by omega) (by omega)
    have e3 : nI q - 3 = nI (q - 3) := nI_sub (a := q) (b := 3) (by omega) (by omega)
    have e1 : nI q - 1 = nI (q - 1) := nI_sub (a := q) (b := 1) (by omega) (by omega)
    have ep : F_X4_carryOutPrint x (nI p) (nI q) w = F_X4_tryPrint x (x + 140) (f (q - 5) - 48) (f (q - 3) - 48) (f (q - 1) - 48) w0 := by
      unfold F_X4_carryOutPrint
      rw [fg_t C.1.1, r6]
      refine (fg_t C.1.2.2.2.2.2.2.1.1).trans ?_
      rw [nI_1]
      refine ob e0 ?_
      rw [e5, e3, e1, c_digitAt B0 (by omega), Option.bind_some, c_digitAt B0 (by omega), Option.bind_some, c_digitAt B0 (by omega), Option.bind_some, if_pos (by omega), if_pos (by omega), if_pos (by omega), dg_n (hx (q - 5) (by omega) (by omega)), dg_n (hx (q - 3) (by omega) (by omega)), dg_n (hx (q - 1) (by omega) (by omega)), r60, bind_eta]
    rw [ep]
    have o0 := C0.1.off (j := 0) (by omega)
    have hgq : q - 7 - p = g := by omega
    rw [hgq]
    refine t_print C0.X (by omega) s0 (g0.to (fun k hk => ?_)) g6 ?_ (by omega) _ _ _
    · show f (p + 1 + k) = wdG f p q (k + 1)
      unfold wdG
      rw [if_neg (by omega)]
      exact congrArg f (by omega)
    · unfold wdG
      rw [if_pos rfl, hgq]
end CCB
