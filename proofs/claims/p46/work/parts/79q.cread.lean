/-! The class's read -/
theorem g_act {f A T : Nat → Int32} {L p q i d : Nat} (hA : WA A) (ho : OG f L p q T i) (hd : A 1 = nI d) (h9 : d + 1 < 100000) : WA (sAct f p q A).2.2 ∧ ∃ d', d' ≤ d + 1 ∧ (sAct f p q A).2.2 1 = nI d' := by
  have fin : ∀ {r : Out}, sAct f p q A = r → GD A r → WA (sAct f p q A).2.2 ∧ ∃ d', d' ≤ d + 1 ∧ (sAct f p q A).2.2 1 = nI d' := by
    intro r e g
    rw [e]
    exact ⟨g.1, d, by omega, g.2.trans hd⟩
  rcases ho with ⟨h, -, hq9⟩ | ⟨h, -, -, hq9⟩ | ⟨h, -, -, -, hq9⟩ | ⟨h, -, -, -, hq9⟩ | ⟨h, -, -, -, -, hq9⟩ | ⟨h, -, g, e, hg, hg1, -, -, -, -, -, h58, hq9⟩
  · rw [sA_100 h]
    have g := g_day hA hd h9
    exact ⟨g.1, d + 1, Nat.le_refl _, g.2⟩
  · rcases h with h | h | h | h
    · exact fin (sA_99 h) (g_pier hA _ _)
    · exact fin (sA_111 h) (g_pier hA _ _)
    · exact fin (sA_116 h) (g_tear hA _)
    · exact fin (sA_120 h) (g_away hA _)
  · rcases h with h | h | h
    · exact fin (sA_102 h) (g_lost hA _ (hN_2 _ _) (Or.inl rfl))
    · exact fin (sA_103 h) (g_ride hA _ (hN_2 _ _))
    · exact fin (sA_108 h) (g_lost hA _ (hN_2 _ _) (Or.inr rfl))
  · exact fin (sA_109 h) (g_mood hA _ _)
  · rcases h with h | h
    · exact fin (sA_112 h) (g_punch hA _ (hN_2 _ _) _)
    · exact fin (sA_119 h) (g_wet hA _ (hN_2 _ _) _)
  · obtain ⟨l1, l2, -⟩ := lf_s f L (p + 1)
    rw [← hg] at l1 l2
    have hgq : q - 7 - p = g := by omega
    have e9 := sA_110 (q := q) (A := A) h
    rw [hgq] at e9
    refine fin e9 (g_print hA l1 ?_ (fun k hk => ?_) _ _ _)
    · unfold wdG
      rw [if_pos rfl, hgq]
    · show isLet (wdG f p q (k + 1)) = 1
      unfold wdG
      rw [if_neg (by omega), show p + (k + 1) = p + 1 + k by omega]
      exact (l2 k hk).2
theorem sq_w {f A T : Nat → Int32} {L m d : Nat} (hA : WA A) (hg : ∀ k, k ≤ m → OG f L (psN f L k) (enN f L k) T k) (hd : A 1 = nI d) (h9 : d + m + 2 < 100000) : ∀ i, i ≤ m + 1 → WA (sqA f L A i) ∧ ∃ d', d' ≤ d + i ∧ sqA f L A i 1 = nI d' := by
  intro i
  induction i with
  | zero => exact fun _ => ⟨hA, d, Nat.le_refl _, hd⟩
  | succ i ih =>
    intro hi
    obtain ⟨h1, d', h2, h3⟩ := ih (by omega)
    obtain ⟨g1, d'', g2, g3⟩ := g_act h1 (hg i (by omega)) h3 (by omega)
    exact ⟨g1, d'', by omega, g3⟩
section CRD
variable {w : FW} {x L n m : Nat} {f A H S T F : Nat → Int32} {sv : Int32}
/-- the class before it carries out the i-th order -/
def CWI (w : FW) (x L : Nat) (f : Nat → Int32) (n : Nat) (A H : Nat → Int32) (sv : Int32) (S : Nat → Int32) (i : Nat) (s : Int32 × Int32 × FW) : Prop := ∃ wi, s = (nI (psN f L i), nI i, wi) ∧ CR wi x (sqA f L A i) n H sv S ∧ OR wi (OFF wi x 1) A ∧ KP w wi x
theorem BU.kp {w w' : FW} (B : BU w x L f) (K : KP w w' x) {A : Nat → Int32} (C : CR w' x A n H sv S) : BU w' x L f := by
  obtain ⟨b1, b2, b3, b4, b5, b6, b7⟩ := B
  obtain ⟨k1, k2, k3, k4, k5, k6⟩ := K
  exact ⟨C.1.1, C.1.2.2.2.2.2.2.2.1, by rw [k3]; exact b3, by rw [k4]; exact b4, (k1 408 (by omega)).trans b5, b6, fun i hi => ⟨(k2 _ (Or.inl rfl) i).trans (b7 i hi).1, (b7 i hi).2⟩⟩
/-- one order more -/
theorem carry_i (B : BU w x L f) (hfr : ∀ i, i < L → ∃ c, 32 ≤ c ∧ c ≤ 126 ∧ f i = nI c) {i : Nat} (hA : WA A) (hps : psN f L i ≤ L) (he : eoo f L (psN f L i) = .inl (enN f L i)) (ho : OG f L (psN f L i) (enN f L i) T i) (hW : WA (sqA f L A (i + 1))) {wi : FW} (C : CR wi x (sqA f L A i) n H sv S) (hs : OR wi (OFF wi x 1) A) (K : KP w wi x) :
    F_X4_endOfOrder x (nI (psN f L i)) wi = some (nI (enN f L i)) ∧ enN f L i ≤ L ∧ ∃ w0, CR w0 x (sqA f L A i) n H sv S ∧ OR w0 (OFF w0 x 1) A ∧ KP w w0 x ∧ (((sqR f L A i).1 = 0 ∧ ∃ w', F_X4_carryOut x (nI (psN f L i)) (nI (enN f L i)) wi = some (0, w') ∧ CR w' x (sqA f L A (i + 1)) n H sv S ∧ OR w' (OFF w' x 1) A ∧ KP w w' x) ∨ (0 < (sqR f L A i).1 ∧ F_X4_carryOut x (nI (psN f L i)) (nI (enN f L i)) wi = some (3, sI (sI w0 411 x 0 (sqR f L A i).1) 412 x 0 (sqR f L A i).2.1)) ∨ ((sqR f L A i).1 < 0 ∧ ∃ k, (k = 1 ∨ k = 2) ∧ F_X4_carryOut x (nI (psN f L i)) (nI (enN f L i)) wi = some (k, w0))) := by
  have Bi := B.kp K C
  have hle := eoo_le (f := f) hps
  have hen : enN f L i ≤ L := hle.2.1
  have e1 := c_eoo Bi hps
  rw [he] at e1
  obtain ⟨w0, ⟨C0, ho0, K0, kp0⟩, hc⟩ := c_carry C Bi hfr (hle.2.2 _ he) hen (eoo_33 he) ho
  have hs0 : OR w0 (OFF w0 x 1) A := by
    rw [ho0]
    exact kp0 A hs hA
  refine ⟨e1, hen, w0, C0, hs0, K.tr K0, ?_⟩
  rcases hc with ⟨h0, w', e, f1, s1, g1⟩ | ⟨h0, e⟩ | ⟨h0, e⟩ | ⟨h0, e⟩
  · obtain ⟨C2, ho2, K2, kp2⟩ := C0.act f1 s1 g1 hW
    refine Or.inl ⟨h0, w', e, C2, ?_, (K.tr K0).tr K2⟩
    rw [ho2]
    exact kp2 A hs0 hA
  · exact Or.inr (Or.inl ⟨h0, e⟩)
  · exact Or.inr (Or.inr ⟨by show (sAct f (psN f L i) (enN f L i) (sqA f L A i)).1 < 0; rw [h0]; decide, 1, Or.inl rfl, e⟩)
  · exact Or.inr (Or.inr ⟨by show (sAct f (psN f L i) (enN f L i) (sqA f L A i)).1 < 0; rw [h0]; decide, 2, Or.inr rfl, e⟩)
theorem all_go (B : BU w x L f) (hfr : ∀ i, i < L → ∃ c, 32 ≤ c ∧ c ≤ 126 ∧ f i = nI c) {i : Nat} (hi : i < 60) (hA : WA A) (hps : psN f L i ≤ L) (hk : okO f L i) (ho : OG f L (psN f L i) (enN f L i) T i) (hW : WA (sqA f L A (i + 1))) (hz : (sqR f L A i).1 = 0) (s : Int32 × Int32 × FW) (hs : CWI w x L f n A H sv S i s) : ∃ s', ((fun s1 => (if 60 ≤ s1.2.1 then some (.inr (.inl s1.2.2)) else fg (w.1 x = 5) inferInstance ((F_X4_endOfOrder x s1.1 s1.2.2).bind (fun r11 => (if r11 < 0 then some (.inr (.inr ((s1.2.1 ^^^ (-1)), s1.2.2))) else (F_X4_carryOut x s1.1 r11 s1.2.2).bind (fun r16 => (if r16.1 = 0 then (if r11 < (gI r16.2 408 x 0) then some (.inl ((r11 + 1), (s1.2.1 + 1), r16.2)) else some (.inr (.inr ((s1.2.1 + 1), r16.2)))) else some (.inr (.inr ((s1.2.1 ^^^ (-1)), r16.2)))))))))) : Int32 × Int32 × FW → Option ((Int32 × Int32 × FW) ⊕ ((FW) ⊕ (Int32 × FW)))) s = some (.inl s') ∧ CWI w x L f n A H sv S (i + 1) s' := by
  obtain ⟨wi, rfl, C, hsp, K⟩ := hs
  obtain ⟨e1, hen, w0, C0, hs0, K0, hc⟩ := carry_i B hfr hA hps hk.1 ho hW C hsp K
  have b6 := B.2.2.2.2.2.1
  rcases hc with ⟨h0, w', e, C2, hs2, K2⟩ | ⟨h0, -⟩ | ⟨h0, -⟩
  · refine ⟨(nI (psN f L (i + 1)), nI (i + 1), w'), ?_, w', rfl, C2, hs2, K2⟩
    have B2 := B.kp K2 C2
    dsimp only
    rw [if_neg (show ¬ (60 : Int32) ≤ nI i from nI_ge (b := 60) hi (by decide))]
    refine (fg_t B.1).trans ?_
    rw [e1, Option.bind_some, if_neg (nI_pos (by omega)), e, Option.bind_some]
    dsimp only
    rw [if_pos rfl, B2.2.2.2.2.1, if_pos ((nI_ltI (by omega) (by omega)).mpr hk.2.1), nI_1, nI_1]
    rfl
  · rw [hz] at h0
    exact absurd h0 (by decide)
  · rw [hz] at h0
    exact absurd h0 (by decide)
/-- behind the orders: the class's own numbers -/
def KN (w w' : FW) (x : Nat) (r : Out) : Prop := (∀ c, ¬ c = 405 → ¬ c = 411 → ¬ c = 412 → gI w' c x 0 = gI w c x 0) ∧ gI w' 411 x 0 = (if r.1 ≤ 0 then gI w 411 x 0 else r.1) ∧ gI w' 412 x 0 = (if r.1 ≤ 0 then gI w 412 x 0 else r.2.1) ∧ (∀ a, a = x + 142 ∨ a = x + 143 → ∀ i, gI w' 600 a i = gI w 600 a i) ∧ w'.1 = w.1 ∧ w'.2.1 = w.2.1 ∧ (∀ c a i, x + 512 ≤ a → gI w' c a i = gI w c a i) ∧ ∀ c a i, x + 512 ≤ a → gR w' c a i = gR w c a i
theorem KN.neg {w w' : FW} {r : Out} (K : KP w w' x) (h : r.1 < 0) : KN w w' x r := by
  have h' : r.1 ≤ 0 := by
    rw [Int32.lt_iff_toInt_lt] at h
    rw [Int32.le_iff_toInt_le]
    omega
  obtain ⟨k1, k2, k3, k4, k5, k6⟩ := K
  exact ⟨fun c c1 _ _ => k1 c c1, by rw [if_pos h']; exact k1 411 (by omega), by rw [if_pos h']; exact k1 412 (by omega), k2, k3, k4, k5, k6⟩
theorem KN.pos {w w' : FW} {r : Out} (K : KP w w' x) (h : 0 < r.1) : KN w (sI (sI w' 411 x 0 r.1) 412 x 0 r.2.1) x r := by
  have h' : ¬ r.1 ≤ 0 := by
    rw [Int32.lt_iff_toInt_lt] at h
    rw [Int32.le_iff_toInt_le]
    omega
  obtain ⟨k1, k2, k3, k4, k5, k6⟩ := K
  refine ⟨fun c c1 c2 c3 => ?_, ?_, ?_, fun a ha i => ?_, k3, k4, fun c a i ha => ?_, k6⟩
  · rw [gI_sI, if_neg (by omega), gI_sI, if_neg (by omega)]
    exact k1 c c1
  · rw [if_neg h', gI_sI, if_neg (by omega), gI_s]
  · rw [if_neg h', gI_s]
  · rw [gI_sI, if_neg (by omega), gI_sI, if_neg (by omega)]
    exact k2 a ha i
  · rw [gI_sI, if_neg (by omega), gI_sI, if_neg (by omega)]
    exact k5 c a i ha
theorem OR.nm {w : FW} {j : Nat} {A' : Nat → Int32} (C : CR w x A n H sv S) (hj : j < 11) (hr : OR w (OFF w x j) A') (hA : WA A') {c : Nat} (v : Int32) : OR (sI w c x 0 v) (OFF (sI w c x 0 v) x j) A' := by
  have oj := C.1.off hj
  exact hr.fr oj.1 hA.n8 (Fr.sI w c x 0 v (P := fun a => a = x) rfl) (fun q q1 q2 => by omega)
theorem c_all_ok (B : BU w x L f) (hfr : ∀ i, i < L → ∃ c, 32 ≤ c ∧ c ≤ 126 ∧ f i = nI c) (hm : m ≤ 30) (h2 : ∀ i, i < m → okO f L i) (h3 : ∀ i, i ≤ m → 2 * i ≤ psN f L i ∧ psN f L i ≤ L) (hok : eoo f L (psN f L m) = .inl L) (hg : ∀ k, k ≤ m → OG f L (psN f L k) (enN f L k) T k) (hW : ∀ i, i ≤ m + 1 → WA (sqA f L A i)) (hz : ∀ i, i ≤ m → (sqR f L A i).1 = 0) (C : CR w x A n H sv S) (hs : OR w (OFF w x 1) A) :
    ∃ w', F_X4_carryOutAll x w = some (nI (m + 1), w') ∧ CR w' x (sqA f L A (m + 1)) n H sv S ∧ OR w' (OFF w' x 1) A ∧ KP w w' x := by
  have b6 := B.2.2.2.2.2.1
  have hA : WA A := hW 0 (by omega)
  have hem : enN f L m = L := by
    unfold enN
    rw [hok]
    rfl
  have hl := fLoop_inv (σ := Int32 × Int32 × FW) (ρ := (FW) ⊕ (Int32 × FW)) (f := (fun s1 => (if 60 ≤ s1.2.1 then some (.inr (.inl s1.2.2)) else fg (w.1 x = 5) inferInstance ((F_X4_endOfOrder x s1.1 s1.2.2).bind (fun r11 => (if r11 < 0 then some (.inr (.inr ((s1.2.1 ^^^ (-1)), s1.2.2))) else (F_X4_carryOut x s1.1 r11 s1.2.2).bind (fun r16 => (if r16.1 = 0 then (if r11 < (gI r16.2 408 x 0) then some (.inl ((r11 + 1), (s1.2.1 + 1), r16.2)) else some (.inr (.inr ((s1.2.1 + 1), r16.2)))) else some (.inr (.inr ((s1.2.1 ^^^ (-1)), r16.2))))))))))) (Q := fun r => ∃ w', r = .inr (nI (m + 1), w') ∧ CR w' x (sqA f L A (m + 1)) n H sv S ∧ OR w' (OFF w' x 1) A ∧ KP w w' x) (CWI w x L f n A H sv S) m (s := (0, 0, w)) ⟨w, rfl, C, hs, KP.rf _ _⟩ (fun i s hi hI => all_go B hfr (by omega) hA (h3 i (by omega)).2 (h2 i hi) (hg i (by omega)) (hW (i + 1) (by omega)) (hz i (by omega)) s hI) (fun s hI => ?_)
  · obtain ⟨r, er, w', rfl, C', hs', K'⟩ := hl
    refine ⟨w', ?_, C', hs', K'⟩
    unfold F_X4_carryOutAll
    exact ob er rfl
  · obtain ⟨wi, rfl, C, hsp, K⟩ := hI
    obtain ⟨e1, hen, w0, C0, hs0, K0, hc⟩ := carry_i B hfr hA (h3 m (Nat.le_refl _)).2 (by rw [hem]; exact hok) (hg m (Nat.le_refl _)) (hW (m + 1) (Nat.le_refl _)) C hsp K
    have hzm := hz m (Nat.le_refl _)
    rcases hc with ⟨h0, w', e, C2, hs2, K2⟩ | ⟨h0, -⟩ | ⟨h0, -⟩
    · refine ⟨.inr (nI (m + 1), w'), ?_, w', rfl, C2, hs2, K2⟩
      have B2 := B.kp K2 C2
      dsimp only
      rw [if_neg (show ¬ (60 : Int32) ≤ nI m from nI_ge (b := 60) (by omega) (by decide))]
      refine (fg_t B.1).trans ?_
      rw [e1, Option.bind_some, if_neg (nI_pos (by omega)), e, Option.bind_some]
      dsimp only
      rw [if_pos rfl, B2.2.2.2.2.1, hem, if_neg (fun z => absurd ((nI_ltI (by omega) (by omega)).mp z) (by omega)), nI_1]
    · rw [hzm] at h0
      exact absurd h0 (by decide)
    · rw [hzm] at h0
      exact absurd h0 (by decide)
theorem c_all_no (B : BU w x L f) (hfr : ∀ i, i < L → ∃ c, 32 ≤ c ∧ c ≤ 126 ∧ f i = nI c) (hm : m ≤ 30) (h2 : ∀ i, i < m → okO f L i) (h3 : ∀ i, i ≤ m → 2 * i ≤ psN f L i ∧ psN f L i ≤ L) (hok : eoo f L (psN f L m) = .inl L) (hg : ∀ k, k ≤ m → OG f L (psN f L k) (enN f L k) T k) (hW : ∀ i, i ≤ m + 1 → WA (sqA f L A i)) {u : Nat} (hu : u ≤ m) (hz : ∀ i, i < u → (sqR f L A i).1 = 0) (hr : ¬ (sqR f L A u).1 = 0) (C : CR w x A n H sv S) (hs : OR w (OFF w x 1) A) :
    ∃ w', F_X4_carryOutAll x w = some (nI u ^^^ (-1), w') ∧ CR w' x (sqA f L A u) n H sv S ∧ OR w' (OFF w' x 1) A ∧ KN w w' x (sqR f L A u) := by
  have b6 := B.2.2.2.2.2.1
  have hA : WA A := hW 0 (by omega)
  have heu : eoo f L (psN f L u) = .inl (enN f L u) := by
    by_cases z : u = m
    · rw [z]
      have hem : enN f L m = L := by
        unfold enN
        rw [hok]
        rfl
      rw [hem]
      exact hok
    · exact (h2 u (by omega)).1
  have hl := fLoop_inv (σ := Int32 × Int32 × FW) (ρ := (FW) ⊕ (Int32 × FW)) (f := (fun s1 => (if 60 ≤ s1.2.1 then some (.inr (.inl s1.2.2)) else fg (w.1 x = 5) inferInstance ((F_X4_endOfOrder x s1.1 s1.2.2).bind (fun r11 => (if r11 < 0 then some (.inr (.inr ((s1.2.1 ^^^ (-1)), s1.2.2))) else (F_X4_carryOut x s1.1 r11 s1.2.2).bind (fun r16 => (if r16.1 = 0 then (if r11 < (gI r16.2 408 x 0) then some (.inl ((r11 + 1), (s1.2.1 + 1), r16.2)) else some (.inr (.inr ((s1.2.1 + 1), r16.2)))) else some (.inr (.inr ((s1.2.1 ^^^ (-1)), r16.2))))))))))) (Q := fun r => ∃ w', r = .inr (nI u ^^^ (-1), w') ∧ CR w' x (sqA f L A u) n H sv S ∧ OR w' (OFF w' x 1) A ∧ KN w w' x (sqR f L A u)) (CWI w x L f n A H sv S) u (s := (0, 0, w)) ⟨w, rfl, C, hs, KP.rf _ _⟩ (fun i s hi hI => all_go B hfr (by omega) hA (h3 i (by omega)).2 (h2 i (by omega)) (hg i (by omega)) (hW (i + 1) (by omega)) (hz i hi) s hI) (fun s hI => ?_)
  · obtain ⟨r, er, w', rfl, C', hs', K'⟩ := hl
    refine ⟨w', ?_, C', hs', K'⟩
    unfold F_X4_carryOutAll
    exact ob er rfl
  · obtain ⟨wi, rfl, C, hsp, K⟩ := hI
    obtain ⟨e1, hen, w0, C0, hs0, K0, hc⟩ := carry_i B hfr hA (h3 u hu).2 heu (hg u hu) (hW (u + 1) (by omega)) C hsp K
    rcases hc with ⟨h0, -⟩ | ⟨h0, e⟩ | ⟨h0, k, hk, e⟩
    · exact absurd h0 hr
    · have C1 := C0.nm (c := 411) (sqR f L A u).1 (by omega) (by omega) (by omega)
      have hs1 := OR.nm C0 (by omega) hs0 hA (c := 411) (sqR f L A u).1
      refine ⟨.inr (nI u ^^^ (-1), sI (sI w0 411 x 0 (sqR f L A u).1) 412 x 0 (sqR f L A u).2.1), ?_, _, rfl, C1.nm _ (by omega) (by omega) (by omega), OR.nm C1 (by omega) hs1 hA _, KN.pos K0 h0⟩
      dsimp only
      rw [if_neg (show ¬ (60 : Int32) ≤ nI u from nI_ge (b := 60) (by omega) (by decide))]
      refine (fg_t B.1).trans ?_
      rw [e1, Option.bind_some, if_neg (nI_pos (by omega)), e, Option.bind_some]
      dsimp only
      rw [if_neg (show ¬ (3 : Int32) = 0 by decide)]
    · refine ⟨.inr (nI u ^^^ (-1), w0), ?_, _, rfl, C0, hs0, KN.neg K0 h0⟩
      dsimp only
      rw [if_neg (show ¬ (60 : Int32) ≤ nI u from nI_ge (b := 60) (by omega) (by decide))]
      refine (fg_t B.1).trans ?_
      rw [e1, Option.bind_some, if_neg (nI_pos (by omega)), e, Option.bind_some]
      dsimp only
      have hk0 : ¬ k = 0 := by
        rcases hk with z | z <;> rw [z] <;> decide
      rw [if_neg hk0]
theorem c_read_bad (C : CR w x A n H sv S) (B : BU w x L f) (hm : m ≤ 30) (h1 : ¬ okO f L m) (h2 : ∀ i, i < m → okO f L i) (h3 : ∀ i, i ≤ m → 2 * i ≤ psN f L i ∧ psN f L i ≤ L) (hbad : ¬ eoo f L (psN f L m) = .inl L) : F_X4_read x w = some (.inr 1, sI (sI w 408 x 0 0) 413 x 0 (fltV f L m)) := by
  have b6 := B.2.2.2.2.2.1
  have hle := (eoo_le (f := f) (h3 m (Nat.le_refl _)).2).2.1
  have hne : ¬ fltV f L m = -1 := by
    unfold fltV
    have hp : ∀ q, q ≤ 60 → ¬ nI q = -1 := by
      have : ∀ q, q < 61 → ¬ nI q = -1 := by decide +kernel
      exact fun q hq => this q (by omega)
    cases he : eoo f L (psN f L m) with
    | inl q =>
      rw [he] at hbad hle
      have h9 : q ≤ L := hle
      have hqL : q < L := by
        by_cases z : q = L
        · exact absurd (by rw [z]) hbad
        · omega
      show ¬ (if q < L then nI q else -1) = -1
      rw [if_pos hqL]
      exact hp q (by omega)
    | inr q =>
      rw [he] at hle
      have h9 : q ≤ L := hle
      exact hp q (by omega)
  unfold F_X4_read
  rw [fg_t C.1.1, c_fault B hm h1 h2 h3, Option.bind_some, if_neg hne]
theorem flt_ok (hok : eoo f L (psN f L m) = .inl L) : fltV f L m = -1 := by
  unfold fltV
  rw [hok]
  exact if_neg (by omega)
theorem c_read_ok (C : CR w x A n H sv S) (B : BU w x L f) (hfr : ∀ i, i < L → ∃ c, 32 ≤ c ∧ c ≤ 126 ∧ f i = nI c) (hm : m ≤ 30) (h1 : ¬ okO f L m) (h2 : ∀ i, i < m → okO f L i) (h3 : ∀ i, i ≤ m → 2 * i ≤ psN f L i ∧ psN f L i ≤ L) (hok : eoo f L (psN f L m) = .inl L) (hg : ∀ k, k ≤ m → OG f L (psN f L k) (enN f L k) T k) (hW : ∀ i, i ≤ m + 1 → WA (sqA f L A i)) (hz : ∀ i, i ≤ m → (sqR f L A i).1 = 0) (hF : ∀ k, k < 177 → F k = A k) :
    ∃ w', F_X4_read x w = some (.inl (nI (m + 1)), w') ∧ CR w' x (sqA f L A (m + 1)) (if n = 8 then 8 else n + 1) (hPush n F H) sv S ∧ gI w' 408 x 0 = 0 ∧ (∀ c, ¬ c = 405 → ¬ c = 408 → gI w' c x 0 = gI w c x 0) ∧ (∀ a, a = x + 142 ∨ a = x + 143 → ∀ i, gI w' 600 a i = gI w 600 a i) ∧ w'.1 = w.1 ∧ w'.2.1 = w.2.1 ∧ (∀ c a i, x + 512 ≤ a → gI w' c a i = gI w c a i) ∧ ∀ c a i, x + 512 ≤ a → gR w' c a i = gR w c a i := by
  have hA : WA A := hW 0 (by omega)
  obtain ⟨w1, e1, C1, ho1, K1, g1⟩ := c_begin C
  have hs1 : OR w1 (OFF w1 x 1) A := by
    rw [ho1]
    exact g1
  obtain ⟨w2, e2, C2, hs2, K2⟩ := c_all_ok (B.kp K1 C1) hfr hm h2 h3 hok hg hW hz C1 hs1
  have C3 := C2.nm (c := 408) 0 (by omega) (by omega) (by omega)
  have hs3 := OR.nm C2 (by omega) hs2 hA (c := 408) 0
  obtain ⟨w4, e4, C4, K4⟩ := c_push C3 hs3 hA hF
  obtain ⟨k1, k2, k3, k4, k5, k6⟩ := K1.tr K2
  obtain ⟨l1, l2, l3, l4, l5, l6⟩ := K4
  refine ⟨w4, ?_, C4, ?_, fun c c1 c2 => ?_, fun a ha i => ?_, l3.trans k3, l4.trans k4, fun c a i ha => ?_, fun c a i ha => (l6 c a i ha).trans (k6 c a i ha)⟩
  · unfold F_X4_read
    rw [fg_t C.1.1, c_fault B hm h1 h2 h3, flt_ok hok, Option.bind_some, if_pos rfl, e1, Option.bind_some, e2, Option.bind_some]
    dsimp only
    rw [if_pos (nI_pos' (by omega)), e4, Option.bind_some]
  · rw [l1 408 (by omega), gI_s]
  · rw [l1 c c1, gI_sI, if_neg (by omega)]
    exact k1 c c1
  · rw [l2 a ha i, gI_sI, if_neg (by omega)]
    exact k2 a ha i
  · rw [l5 c a i ha, gI_sI, if_neg (by omega)]
    exact k5 c a i ha
theorem c_read_no (C : CR w x A n H sv S) (B : BU w x L f) (hfr : ∀ i, i < L → ∃ c, 32 ≤ c ∧ c ≤ 126 ∧ f i = nI c) (hm : m ≤ 30) (h1 : ¬ okO f L m) (h2 : ∀ i, i < m → okO f L i) (h3 : ∀ i, i ≤ m → 2 * i ≤ psN f L i ∧ psN f L i ≤ L) (hok : eoo f L (psN f L m) = .inl L) (hg : ∀ k, k ≤ m → OG f L (psN f L k) (enN f L k) T k) (hW : ∀ i, i ≤ m + 1 → WA (sqA f L A i)) {u : Nat} (hu : u ≤ m) (hz : ∀ i, i < u → (sqR f L A i).1 = 0) (hr : ¬ (sqR f L A u).1 = 0) :
    ∃ w', F_X4_read x w = some (.inr 4, w') ∧ CR w' x A n H sv S ∧ gI w' 408 x 0 = 0 ∧ gI w' 414 x 0 = nI u ∧ gI w' 411 x 0 = (if (sqR f L A u).1 ≤ 0 then gI w 411 x 0 else (sqR f L A u).1) ∧ gI w' 412 x 0 = (if (sqR f L A u).1 ≤ 0 then gI w 412 x 0 else (sqR f L A u).2.1) ∧ (∀ c, ¬ c = 405 → ¬ c = 408 → ¬ c = 411 → ¬ c = 412 → ¬ c = 414 → gI w' c x 0 = gI w c x 0) ∧ (∀ a, a = x + 142 ∨ a = x + 143 → ∀ i, gI w' 600 a i = gI w 600 a i) ∧ w'.1 = w.1 ∧ w'.2.1 = w.2.1 ∧ (∀ c a i, x + 512 ≤ a → gI w' c a i = gI w c a i) ∧ ∀ c a i, x + 512 ≤ a → gR w' c a i = gR w c a i := by
  have hA : WA A := hW 0 (by omega)
  obtain ⟨w1, e1, C1, ho1, K1, g1⟩ := c_begin C
  have hs1 : OR w1 (OFF w1 x 1) A := by
    rw [ho1]
    exact g1
  obtain ⟨w2, e2, C2, hs2, K2⟩ := c_all_no (B.kp K1 C1) hfr hm h2 h3 hok hg hW hu hz hr C1 hs1
  have C3 := C2.nm (c := 408) 0 (by omega) (by omega) (by omega)
  have hs3 := OR.nm C2 (by omega) hs2 hA (c := 408) 0
  obtain ⟨w4, e4, C4, ho4, K4⟩ := C3.take (j := 1) (by omega) (by omega) hs3 hA
  have C5 := C4.nm (c := 414) (nI u) (by omega) (by omega) (by omega)
  obtain ⟨k1, k2, k3, k4, k5, k6⟩ := K1
  obtain ⟨n1, n2, n3, n4, n5, n6, n7, n8⟩ := K2
  obtain ⟨l1, l2, l3, l4, l5, l6⟩ := K4
  obtain ⟨q1, q2, q3⟩ := neg_t u (by omega)
  refine ⟨sI w4 414 x 0 (nI u), ?_, C5, ?_, gI_s _ _ _ _ _, ?_, ?_, fun c c1 c2 c3 c4 c5 => ?_, fun a ha i => ?_, l3.trans (n5.trans k3), l4.trans (n6.trans k4), fun c a i ha => ?_, fun c a i ha => (l6 c a i ha).trans ((n8 c a i ha).trans (k6 c a i ha))⟩
  · unfold F_X4_read
    rw [fg_t C.1.1, c_fault B hm h1 h2 h3, flt_ok hok, Option.bind_some, if_pos rfl, e1, Option.bind_some, e2, Option.bind_some]
    dsimp only
    rw [if_neg q2]
    have hk2 : w.1 (gR w2 400 x 0) = 2 := by
      have := (C2.1.off (j := 0) (by omega)).1.1
      rw [n5, k3] at this
      exact this
    refine (fg_t hk2).trans ?_
    refine ob e4 ?_
    rw [q3]
  · rw [gI_sI, if_neg (by omega), l1 408 (by omega), gI_s]
  · rw [gI_sI, if_neg (by omega), l1 411 (by omega), gI_sI, if_neg (by omega), n2, k1 411 (by omega)]
  · rw [gI_sI, if_neg (by omega), l1 412 (by omega), gI_sI, if_neg (by omega), n3, k1 412 (by omega)]
  · rw [gI_sI, if_neg (by omega), l1 c c1, gI_sI, if_neg (by omega), n1 c c1 c3 c4, k1 c c1]
  · rw [gI_sI, if_neg (by omega), l2 a ha i, gI_sI, if_neg (by omega), n4 a ha i, k2 a ha i]
  · rw [gI_sI, if_neg (by omega), l5 c a i ha, gI_sI, if_neg (by omega), n7 c a i ha, k5 c a i ha]
end CRD
