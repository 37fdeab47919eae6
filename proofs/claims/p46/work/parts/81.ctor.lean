/-! The constructors -/
theorem gUp_gUp (E : gE) (a : Nat) (x y : Option (Cell ⊕ (Nat × (Nat → Value)))) : gUp (gUp E a x) a y = gUp E a y := by
  funext q
  unfold gUp
  by_cases h : q = a
  · rw [if_pos h, if_pos h]
  · rw [if_neg h, if_neg h, if_neg h]
theorem gUp_back {E : gE} {q : Nat} (x : Option (Cell ⊕ (Nat × (Nat → Value)))) (h : E q = none) : gUp (gUp E q x) q none = E := by
  funext p
  unfold gUp
  by_cases e : p = q
  · rw [if_pos e, e, h]
  · rw [if_neg e, if_neg e]
def gE1 (b : Nat) (x : Option (Cell ⊕ (Nat × (Nat → Value)))) : gE := gUp (fun _ => none) b x
def gE2 (b : Nat) (x : Option (Cell ⊕ (Nat × (Nat → Value)))) (a : Nat) (y : Option (Cell ⊕ (Nat × (Nat → Value)))) : gE := gUp (gE1 b x) a y
theorem gE1_b (b : Nat) (x : Option (Cell ⊕ (Nat × (Nat → Value)))) : gE1 b x b = x := gUp_s _ _ _
theorem gE1_up (b : Nat) (x y : Option (Cell ⊕ (Nat × (Nat → Value)))) : gUp (gE1 b x) b y = gE1 b y := gUp_gUp _ _ _ _
theorem gE2_a (b a : Nat) (x y : Option (Cell ⊕ (Nat × (Nat → Value)))) : gE2 b x a y a = y := gUp_s _ _ _
theorem gE2_b {b a : Nat} (x y : Option (Cell ⊕ (Nat × (Nat → Value)))) (h : b < a) : gE2 b x a y b = x := (gUp_n (by omega)).trans (gE1_b b x)
theorem gE2_upa (b a : Nat) (x y z : Option (Cell ⊕ (Nat × (Nat → Value)))) : gUp (gE2 b x a y) a z = gE2 b x a z := gUp_gUp _ _ _ _
theorem gE2_upb {b a : Nat} (x y z : Option (Cell ⊕ (Nat × (Nat → Value)))) (h : b < a) : gUp (gE2 b x a y) b z = gE2 b z a y := by
  funext p
  unfold gE2 gE1 gUp
  by_cases e : p = b
  · have : ¬ p = a := by omega
    simp [e, this]
    omega
  · simp [e]
/-- the same at one address -/
def gSame (w' w : FW) (q : Nat) : Prop := w'.1 q = w.1 q ∧ w'.2.1 q = w.2.1 q ∧ (∀ c i, gI w' c q i = gI w c q i) ∧ ∀ c i, gR w' c q i = gR w c q i
theorem gSame.rf (w : FW) (q : Nat) : gSame w w q := ⟨rfl, rfl, fun _ _ => rfl, fun _ _ => rfl⟩
theorem gSame.tr {w1 w2 w3 : FW} {q : Nat} (h : gSame w1 w2 q) (h' : gSame w2 w3 q) : gSame w1 w3 q := ⟨h.1.trans h'.1, h.2.1.trans h'.2.1, fun c i => (h.2.2.1 c i).trans (h'.2.2.1 c i), fun c i => (h.2.2.2 c i).trans (h'.2.2.2 c i)⟩
theorem gSame.nA {w : FW} {a k n q : Nat} (h : ¬ q = a) : gSame (nA w a k n) w q := gOff.nA w a k n q h
theorem gSame.sI {w : FW} {c a i q : Nat} {v : Int32} (h : ¬ q = a) : gSame (sI w c a i v) w q := ⟨rfl, rfl, fun _ _ => gI_n (fun z => h z.2.1), fun _ _ => rfl⟩
theorem gSame.sR {w : FW} {c a i q : Nat} {v : Nat} (h : ¬ q = a) : gSame (sR w c a i v) w q := ⟨rfl, rfl, fun _ _ => rfl, fun _ _ => gR_n (fun z => h z.2.1)⟩
/-- a world with a new row of references -/
def nF (w : FW) (a k n c : Nat) (f : Nat → Nat) : FW := (fun q => if q = a then k else w.1 q, fun q => if q = a then n else w.2.1 q, fun c' q i => if q = a then 0 else w.2.2.1 c' q i, fun c' q i => if q = a then (if c' = c then f i else 0) else w.2.2.2 c' q i)
theorem gOff.nF (w : FW) (a k n c : Nat) (f : Nat → Nat) : gOff (nF w a k n c f) w a := fun _ h => ⟨if_neg h, if_neg h, fun _ _ => if_neg h, fun _ _ => if_neg h⟩
theorem nF_k (w : FW) (a k n c : Nat) (f : Nat → Nat) : (nF w a k n c f).1 a = k := if_pos rfl
theorem nF_l (w : FW) (a k n c : Nat) (f : Nat → Nat) : (nF w a k n c f).2.1 a = n := if_pos rfl
theorem nF_R (w : FW) (a k n c i : Nat) (f : Nat → Nat) : gR (nF w a k n c f) c a i = f i := (if_pos rfl).trans (if_pos rfl)
theorem g_cs {X : FX} {cells slots n h pc : Nat} {w : FW} {E : gE} {L : List (Nat × Value)} {st : List Value} (c' s' : Nat) (hc : c' = cells) (hs : s' = slots) (k : gAt X c' s' n w h E L st pc) : gAt X cells slots n w h E L st pc := by
  subst hc; subst hs
  exact k
/-- worlds that the constructors make at b, with what they make from sz on -/
def WH (w : FW) (b _sz : Nat) : FW := sI (nA w b 1 0) 1 b 0 (-1)
def WW (w : FW) (b sz : Nat) : FW := sR (nA (nA w sz 10 6) b 4 0) 300 b 0 sz
def WT3 (w : FW) (sz : Nat) : FW := WH (WH (WW w sz (sz + 1)) (sz + 2) (sz + 3)) (sz + 3) (sz + 4)
def WT (w : FW) (b sz : Nat) : FW := sI (sR (sR (sR (nA (WT3 w sz) b 3 0) 200 b 0 sz) 206 b 0 (sz + 2)) 207 b 0 (sz + 3)) 205 b 0 (-1)
def WO3 (w : FW) (sz : Nat) : FW := nA (nA (WW w (sz + 1) (sz + 2)) (sz + 3) 11 3) (sz + 4) 12 5
def WOt (w : FW) (sz : Nat) : Nat → FW
  | 0 => WO3 w sz
  | j + 1 => WT (WOt w sz j) (sz + 5 + 5 * j) (sz + 6 + 5 * j)
def WOo (w : FW) (sz : Nat) : Nat → FW
  | 0 => WOt w sz 8
  | j + 1 => sI (WOo w sz j) 602 (sz + 4) j 1
def WOf (w : FW) (sz : Nat) : FW := nF (WOo w sz 5) sz 14 8 604 (fun i => sz + 5 + 5 * i)
def WO (w : FW) (b sz : Nat) : FW := sR (sR (sR (sR (nA (WOf w sz) b 2 0) 100 b 0 sz) 102 b 0 (sz + 1)) 103 b 0 (sz + 3)) 104 b 0 (sz + 4)
def WC3 (w : FW) (sz : Nat) : FW := WO (WO (WO w sz (sz + 1)) (sz + 46) (sz + 47)) (sz + 92) (sz + 93)
def WC6 (w : FW) (sz : Nat) : FW := nA (nA (WW (WC3 w sz) (sz + 139) (sz + 140)) (sz + 141) 10 60) (sz + 142) 10 17
def WCp (w : FW) (sz : Nat) : Nat → FW
  | 0 => WC6 w sz
  | j + 1 => WO (WCp w sz j) (sz + 143 + 46 * j) (sz + 144 + 46 * j)
def WCf (w : FW) (sz : Nat) : FW := nF (WCp w sz 8) (sz + 138) 13 8 603 (fun i => sz + 143 + 46 * i)
def WC (w : FW) (b sz : Nat) : FW := sI (sI (sR (sR (sR (sR (sR (sR (sR (nA (WCf w sz) b 5 0) 400 b 0 sz) 401 b 0 (sz + 46)) 402 b 0 (sz + 92)) 404 b 0 (sz + 138)) 406 b 0 (sz + 139)) 407 b 0 (sz + 141)) 409 b 0 (sz + 142)) 413 b 0 (-1)) 414 b 0 (-1)
def WM8 (w : FW) (sz : Nat) : FW := nA (nA (nA (nA (nA (nA (nA (nA w sz 11 177) (sz + 1) 11 177) (sz + 2) 11 177) (sz + 3) 11 1416) (sz + 4) 11 60) (sz + 5) 11 240) (sz + 6) 11 60) (sz + 7) 11 7
def WM (w : FW) (b sz : Nat) : FW := sI (sI (sR (sR (sR (sR (sR (sR (sR (sR (nA (WM8 w sz) b 6 0) 501 b 0 sz) 502 b 0 (sz + 1)) 503 b 0 (sz + 2)) 504 b 0 (sz + 3)) 507 b 0 (sz + 4)) 508 b 0 (sz + 5)) 509 b 0 (sz + 6)) 510 b 0 (sz + 7)) 513 b 0 (-1)) 514 b 0 (-1)
theorem WH_off {w : FW} {b sz q : Nat} (h : ¬ q = b) : gSame (WH w b sz) w q := (gSame.sI h).tr (gSame.nA h)
theorem WW_off {w : FW} {b sz q : Nat} (h : ¬ q = b) (h' : ¬ q = sz) : gSame (WW w b sz) w q := ((gSame.sR h).tr (gSame.nA h)).tr (gSame.nA h')
theorem WT3_off {w : FW} {sz q : Nat} (h : ¬ (sz ≤ q ∧ q < sz + 4)) : gSame (WT3 w sz) w q := ((WH_off (by omega)).tr (WH_off (by omega))).tr (WW_off (by omega) (by omega))
theorem WT_off {w : FW} {b sz q : Nat} (h : ¬ q = b) (h' : ¬ (sz ≤ q ∧ q < sz + 4)) : gSame (WT w b sz) w q := (((((gSame.sI h).tr (gSame.sR h)).tr (gSame.sR h)).tr (gSame.sR h)).tr (gSame.nA h)).tr (WT3_off h')
theorem WT_k (w : FW) (b sz : Nat) : (WT w b sz).1 b = 3 := nA_k (WT3 w sz) b 3 0
theorem WO3_off {w : FW} {sz q : Nat} (h : ¬ (sz + 1 ≤ q ∧ q < sz + 5)) : gSame (WO3 w sz) w q := ((gSame.nA (by omega)).tr (gSame.nA (by omega))).tr (WW_off (by omega) (by omega))
theorem WOt_off {w : FW} {sz q : Nat} : ∀ j, ¬ (sz + 1 ≤ q ∧ q < sz + 5 + 5 * j) → gSame (WOt w sz j) w q
  | 0, h => WO3_off (by omega)
  | j + 1, h => (WT_off (by omega) (by omega)).tr (WOt_off j (by omega))
theorem WOo_off {w : FW} {sz q : Nat} (h : ¬ q = sz + 4) : ∀ j, gSame (WOo w sz j) (WOt w sz 8) q
  | 0 => gSame.rf _ _
  | j + 1 => (gSame.sI h).tr (WOo_off h j)
theorem WOf_off {w : FW} {sz q : Nat} (h : ¬ (sz ≤ q ∧ q < sz + 45)) : gSame (WOf w sz) w q := ((show gSame _ _ q from gOff.nF _ _ _ _ _ _ q (by omega)).tr (WOo_off (by omega) 5)).tr (WOt_off 8 (by omega))
theorem WO_off {w : FW} {b sz q : Nat} (h : ¬ q = b) (h' : ¬ (sz ≤ q ∧ q < sz + 45)) : gSame (WO w b sz) w q := (((((gSame.sR h).tr (gSame.sR h)).tr (gSame.sR h)).tr (gSame.sR h)).tr (gSame.nA h)).tr (WOf_off h')
theorem WO_k (w : FW) (b sz : Nat) : (WO w b sz).1 b = 2 := nA_k (WOf w sz) b 2 0
theorem WC3_off {w : FW} {sz q : Nat} (h : ¬ (sz ≤ q ∧ q < sz + 138)) : gSame (WC3 w sz) w q := ((WO_off (by omega) (by omega)).tr (WO_off (by omega) (by omega))).tr (WO_off (by omega) (by omega))
theorem WC6_off {w : FW} {sz q : Nat} (h : ¬ (sz + 139 ≤ q ∧ q < sz + 143)) : gSame (WC6 w sz) (WC3 w sz) q := ((gSame.nA (by omega)).tr (gSame.nA (by omega))).tr (WW_off (by omega) (by omega))
theorem WCp_off {w : FW} {sz q : Nat} : ∀ j, ¬ (sz + 143 ≤ q ∧ q < sz + 143 + 46 * j) → gSame (WCp w sz j) (WC6 w sz) q
  | 0, h => gSame.rf _ _
  | j + 1, h => (WO_off (by omega) (by omega)).tr (WCp_off j (by omega))
theorem WC_off {w : FW} {b sz q : Nat} (h : ¬ q = b) (h' : ¬ (sz ≤ q ∧ q < sz + 511)) : gSame (WC w b sz) w q := ((((((((((((gSame.sI h).tr (gSame.sI h)).tr (gSame.sR h)).tr (gSame.sR h)).tr (gSame.sR h)).tr (gSame.sR h)).tr (gSame.sR h)).tr (gSame.sR h)).tr (gSame.sR h)).tr (gSame.nA h)).tr (show gSame _ _ q from gOff.nF _ _ _ _ _ _ q (by omega))).tr ((WCp_off 8 (by omega)).tr (WC6_off (by omega)))).tr (WC3_off (by omega))
theorem WM8_off {w : FW} {sz q : Nat} (h : ¬ (sz ≤ q ∧ q < sz + 8)) : gSame (WM8 w sz) w q := (((((((gSame.nA (by omega)).tr (gSame.nA (by omega))).tr (gSame.nA (by omega))).tr (gSame.nA (by omega))).tr (gSame.nA (by omega))).tr (gSame.nA (by omega))).tr (gSame.nA (by omega))).tr (gSame.nA (by omega))
theorem WM_off {w : FW} {b sz q : Nat} (h : ¬ q = b) (h' : ¬ (sz ≤ q ∧ q < sz + 8)) : gSame (WM w b sz) w q := (((((((((((gSame.sI h).tr (gSame.sI h)).tr (gSame.sR h)).tr (gSame.sR h)).tr (gSame.sR h)).tr (gSame.sR h)).tr (gSame.sR h)).tr (gSame.sR h)).tr (gSame.sR h)).tr (gSame.sR h)).tr (gSame.nA h)).tr (WM8_off h')
theorem dfX0 : ∀ j, j < 5 → defaultValue (tyX0 j) = gZ 0 j := by decide
theorem dfX1 : ∀ j, j < 10 → defaultValue (tyX1 j) = gZ 1 j := by decide
theorem dfX2 : ∀ j, j < 8 → defaultValue (tyX2 j) = gZ 2 j := by decide
theorem dfX3 : ∀ j, j < 2 → defaultValue (tyX3 j) = gZ 3 j := by decide
theorem dfX4 : ∀ j, j < 15 → defaultValue (tyX4 j) = gZ 4 j := by decide
theorem dfJ4 : ∀ j, j < 4 → defaultValue (tyJ4 j) = gZ 5 j := by decide
theorem dfJ0 : ∀ j, j < 4 → defaultValue (tyJ0 j) = gZ 6 j := by decide
theorem gE2_none {b a : Nat} {x : Option (Cell ⊕ (Nat × (Nat → Value)))} {y : Option (Cell ⊕ (Nat × (Nat → Value)))} (h : b < a) : gUp (gE2 b x a y) a none = gE1 b x := by
  rw [gE2_upa]
  funext p
  unfold gE2 gE1 gUp
  by_cases e : p = a
  · have : ¬ p = b := by omega
    rw [if_pos e, if_neg this]
  · rw [if_neg e]
theorem q_105 : Cond.methodLink RX4 3 Lib.objectInit ∈ lwA := mA 105 (by decide +kernel) rfl
theorem q_106 : Cond.instanceMethod Lib.objectInit ∈ lwA := mA 106 (by decide +kernel) rfl
theorem q_107 : Cond.code Lib.objectInit ⟨#[0xb1]⟩ 1 none ∈ lwA := mA 107 (by decide +kernel) rfl
theorem q_108 : Cond.classLink RX4 9 RX1 ∈ lwA := mA 108 (by decide +kernel) rfl
theorem q_109 : Cond.instantiable RX1 10 ∈ lwA := mA 109 (by decide +kernel) rfl
theorem q_110 : Cond.methodLinkNest RX4 11 yX1_init "FerryTickets" ∈ lwN := mN 110 (by decide +kernel) rfl
theorem q_111 : Cond.instanceMethod yX1_init ∈ lwA := mA 111 (by decide +kernel) rfl
theorem q_112 : Cond.code yX1_init cX1_init 2 none ∈ lwA := mA 112 (by decide +kernel) rfl
theorem q_113 : Cond.methodLink RX1 3 Lib.objectInit ∈ lwA := mA 113 (by decide +kernel) rfl
theorem q_114 : Cond.classLink RX1 9 RX2 ∈ lwA := mA 114 (by decide +kernel) rfl
theorem q_115 : Cond.arrayOver (.object RX2) ∈ lwN := mN 115 (by decide +kernel) rfl
theorem q_116 : Cond.classLink RX1 21 RX3 ∈ lwA := mA 116 (by decide +kernel) rfl
theorem q_117 : Cond.instantiable RX3 2 ∈ lwA := mA 117 (by decide +kernel) rfl
theorem q_118 : Cond.methodLinkNest RX1 23 yX3_init "FerryTickets" ∈ lwN := mN 118 (by decide +kernel) rfl
theorem q_119 : Cond.instanceMethod yX3_init ∈ lwA := mA 119 (by decide +kernel) rfl
theorem q_120 : Cond.code yX3_init cX3_init 1 none ∈ lwA := mA 120 (by decide +kernel) rfl
theorem q_121 : Cond.methodLink RX3 3 Lib.objectInit ∈ lwA := mA 121 (by decide +kernel) rfl
theorem q_132 : Cond.arrayClass .char ∈ lwA := mA 132 (by decide +kernel) rfl
theorem q_133 : Cond.instantiable RX2 8 ∈ lwA := mA 133 (by decide +kernel) rfl
theorem q_134 : Cond.methodLinkNest RX1 51 yX2_init "FerryTickets" ∈ lwN := mN 134 (by decide +kernel) rfl
theorem q_135 : Cond.instanceMethod yX2_init ∈ lwA := mA 135 (by decide +kernel) rfl
theorem q_136 : Cond.code yX2_init cX2_init 1 none ∈ lwA := mA 136 (by decide +kernel) rfl
theorem q_137 : Cond.methodLink RX2 3 Lib.objectInit ∈ lwA := mA 137 (by decide +kernel) rfl
theorem q_138 : Cond.classLink RX2 9 RX3 ∈ lwA := mA 138 (by decide +kernel) rfl
theorem q_139 : Cond.methodLinkNest RX2 11 yX3_init "FerryTickets" ∈ lwN := mN 139 (by decide +kernel) rfl
theorem q_140 : Cond.classLink RX2 35 RX0 ∈ lwA := mA 140 (by decide +kernel) rfl
theorem q_141 : Cond.instantiable RX0 5 ∈ lwA := mA 141 (by decide +kernel) rfl
theorem q_142 : Cond.methodLinkNest RX2 37 yX0_init "FerryTickets" ∈ lwN := mN 142 (by decide +kernel) rfl
theorem q_143 : Cond.instanceMethod yX0_init ∈ lwA := mA 143 (by decide +kernel) rfl
theorem q_144 : Cond.code yX0_init cX0_init 1 none ∈ lwA := mA 144 (by decide +kernel) rfl
theorem q_145 : Cond.methodLink RX0 3 Lib.objectInit ∈ lwA := mA 145 (by decide +kernel) rfl
theorem q_173 : Cond.arrayClass .int ∈ lwA := mA 173 (by decide +kernel) rfl
theorem q_174 : Cond.arrayClass .boolean ∈ lwA := mA 174 (by decide +kernel) rfl
theorem q_257 : Cond.arrayOver (.object RX1) ∈ lwN := mN 257 (by decide +kernel) rfl
theorem q_258 : Cond.classLink RX4 34 RX3 ∈ lwA := mA 258 (by decide +kernel) rfl
theorem q_259 : Cond.methodLinkNest RX4 36 yX3_init "FerryTickets" ∈ lwN := mN 259 (by decide +kernel) rfl
theorem dX0_init_0 : decode cX0_init 0 = .ok (.aload_n 0, 1) := by decide +kernel
theorem dX0_init_1 : decode cX0_init 1 = .ok (.invokespecial 3, 3) := by decide +kernel
theorem dX0_init_4 : decode cX0_init 4 = .ok (.aload_n 0, 1) := by decide +kernel
theorem dX0_init_5 : decode cX0_init 5 = .ok (.iconst 0, 1) := by decide +kernel
theorem dX0_init_6 : decode cX0_init 6 = .ok (.putfield 9, 3) := by decide +kernel
theorem dX0_init_9 : decode cX0_init 9 = .ok (.aload_n 0, 1) := by decide +kernel
theorem dX0_init_10 : decode cX0_init 10 = .ok (.iconst (-1), 1) := by decide +kernel
theorem dX0_init_11 : decode cX0_init 11 = .ok (.putfield 15, 3) := by decide +kernel
theorem dX0_init_14 : decode cX0_init 14 = .ok (.aload_n 0, 1) := by decide +kernel
theorem dX0_init_15 : decode cX0_init 15 = .ok (.iconst 0, 1) := by decide +kernel
theorem dX0_init_16 : decode cX0_init 16 = .ok (.putfield 19, 3) := by decide +kernel
theorem dX0_init_19 : decode cX0_init 19 = .ok (.aload_n 0, 1) := by decide +kernel
theorem dX0_init_20 : decode cX0_init 20 = .ok (.iconst 0, 1) := by decide +kernel
theorem dX0_init_21 : decode cX0_init 21 = .ok (.putfield 22, 3) := by decide +kernel
theorem dX0_init_24 : decode cX0_init 24 = .ok (.aload_n 0, 1) := by decide +kernel
theorem dX0_init_25 : decode cX0_init 25 = .ok (.iconst 0, 1) := by decide +kernel
theorem dX0_init_26 : decode cX0_init 26 = .ok (.putfield 25, 3) := by decide +kernel
theorem dX0_init_29 : decode cX0_init 29 = .ok (.return_, 1) := by decide +kernel
theorem h9_X0_init : yX0_init.cls ≠ "java/lang/invoke/MethodHandle" ∧ yX0_init.cls ≠ "java/lang/invoke/VarHandle" ∧ (parseMethodDescriptor yX0_init.desc).map (fun d => d.parameters.length) = some 0 := by decide +kernel
set_option maxHeartbeats 4000000 in
set_option maxRecDepth 100000 in
theorem c_X0_init (l : Launch) (D : va_G) (cy : Nat → ClassId) : gSpec l D cy yX0_init cX0_init 1 { frames := 1, cells := 0, slots := 0, locals := 20 } 0 WH 0 := by
  refine g_begin (by decide +kernel) rfl (Nat.le_of_ble_eq_true rfl) (fun X w sz b hC hNm hEn hb0 hb1 => ?_)
  refine g_nm sz (gE1 b (some (.inr (0, gZ 0)))) w [(0, .ref b)] rfl rfl rfl rfl ?_
  refine g_aload_n hC dX0_init_0 rfl 0 rfl ?_
  refine g_objInit hC q_145 q_106 q_107 ⟨Nat.le_of_ble_eq_true rfl, Nat.le_of_ble_eq_true rfl⟩ (Nat.le_of_ble_eq_true rfl) dX0_init_1 ?_
  refine g_aload_n hC dX0_init_4 rfl 0 rfl ?_
  refine g_iconst (v := 0) hC dX0_init_5 (by decide) ?_
  refine g_putE hC 0 0 rfl (by decide) iX0 tyX0 tyX0_ok nmX0 q_146 rfl  rfl rfl (gE1_b _ _) dX0_init_6 ?_
  refine g_nm sz (gE1 b (some (.inr (0, (updV (gZ 0) 0 (.int 0)))))) w [(0, .ref b)] rfl (gE1_up _ _ _).symm rfl rfl ?_
  refine g_aload_n hC dX0_init_9 rfl 0 rfl ?_
  refine g_iconst (v := (-1)) hC dX0_init_10 (by decide) ?_
  refine g_putE hC 0 1 rfl (by decide) iX0 tyX0 tyX0_ok nmX0 q_150 rfl  rfl rfl (gE1_b _ _) dX0_init_11 ?_
  refine g_nm sz (gE1 b (some (.inr (0, (updV (updV (gZ 0) 0 (.int 0)) 1 (.int (-1))))))) w [(0, .ref b)] rfl (gE1_up _ _ _).symm rfl rfl ?_
  refine g_aload_n hC dX0_init_14 rfl 0 rfl ?_
  refine g_iconst (v := 0) hC dX0_init_15 (by decide) ?_
  refine g_putE hC 0 2 rfl (by decide) iX0 tyX0 tyX0_ok nmX0 q_153 rfl  rfl rfl (gE1_b _ _) dX0_init_16 ?_
  refine g_nm sz (gE1 b (some (.inr (0, (updV (updV (updV (gZ 0) 0 (.int 0)) 1 (.int (-1))) 2 (.int 0)))))) w [(0, .ref b)] rfl (gE1_up _ _ _).symm rfl rfl ?_
  refine g_aload_n hC dX0_init_19 rfl 0 rfl ?_
  refine g_iconst (v := 0) hC dX0_init_20 (by decide) ?_
  refine g_putE hC 0 3 rfl (by decide) iX0 tyX0 tyX0_ok nmX0 q_156 rfl  rfl rfl (gE1_b _ _) dX0_init_21 ?_
  refine g_nm sz (gE1 b (some (.inr (0, (updV (updV (updV (updV (gZ 0) 0 (.int 0)) 1 (.int (-1))) 2 (.int 0)) 3 (.int 0)))))) w [(0, .ref b)] rfl (gE1_up _ _ _).symm rfl rfl ?_
  refine g_aload_n hC dX0_init_24 rfl 0 rfl ?_
  refine g_iconst (v := 0) hC dX0_init_25 (by decide) ?_
  refine g_putE hC 0 4 rfl (by decide) iX0 tyX0 tyX0_ok nmX0 q_159 rfl  rfl rfl (gE1_b _ _) dX0_init_26 ?_
  refine g_nm sz (gE1 b (some (.inr (0, (updV (updV (updV (updV (updV (gZ 0) 0 (.int 0)) 1 (.int (-1))) 2 (.int 0)) 3 (.int 0)) 4 (.int 0)))))) w [(0, .ref b)] rfl (gE1_up _ _ _).symm rfl rfl ?_
  refine g_takeOb (w' := WH w b sz) (gE1_b _ _) (by decide) (fun q hq => show gSame _ _ q from (gSame.sI hq).tr (gSame.nA hq)) (if_pos rfl) (fun j hj => ?_) ?_
  · have hj : j < 5 := hj
    rcases (show j = 0 ∨ j = 1 ∨ j = 2 ∨ j = 3 ∨ j = 4 by omega) with rfl | rfl | rfl | rfl | rfl <;> simp [updV, gZ, fV, fRf, gI, gR, WH, sI, sR, nA]
  · exact g_end hC hEn rfl dX0_init_29
theorem dX3_init_0 : decode cX3_init 0 = .ok (.aload_n 0, 1) := by decide +kernel
theorem dX3_init_1 : decode cX3_init 1 = .ok (.invokespecial 3, 3) := by decide +kernel
theorem dX3_init_4 : decode cX3_init 4 = .ok (.aload_n 0, 1) := by decide +kernel
theorem dX3_init_5 : decode cX3_init 5 = .ok (.bipush 6, 2) := by decide +kernel
theorem dX3_init_7 : decode cX3_init 7 = .ok (.newarray .char, 2) := by decide +kernel
theorem dX3_init_9 : decode cX3_init 9 = .ok (.putfield 9, 3) := by decide +kernel
theorem dX3_init_12 : decode cX3_init 12 = .ok (.aload_n 0, 1) := by decide +kernel
theorem dX3_init_13 : decode cX3_init 13 = .ok (.iconst 0, 1) := by decide +kernel
theorem dX3_init_14 : decode cX3_init 14 = .ok (.putfield 15, 3) := by decide +kernel
theorem dX3_init_17 : decode cX3_init 17 = .ok (.return_, 1) := by decide +kernel
theorem h9_X3_init : yX3_init.cls ≠ "java/lang/invoke/MethodHandle" ∧ yX3_init.cls ≠ "java/lang/invoke/VarHandle" ∧ (parseMethodDescriptor yX3_init.desc).map (fun d => d.parameters.length) = some 0 := by decide +kernel
set_option maxHeartbeats 4000000 in
set_option maxRecDepth 100000 in
theorem c_X3_init (l : Launch) (D : va_G) (cy : Nat → ClassId) : gSpec l D cy yX3_init cX3_init 1 { frames := 1, cells := 1, slots := 6, locals := 20 } 3 WW 1 := by
  refine g_begin (by decide +kernel) rfl (Nat.le_of_ble_eq_true rfl) (fun X w sz b hC hNm hEn hb0 hb1 => ?_)
  refine g_nm sz (gE1 b (some (.inr (3, gZ 3)))) w [(0, .ref b)] rfl rfl rfl rfl ?_
  refine g_aload_n hC dX3_init_0 rfl 0 rfl ?_
  refine g_objInit hC q_121 q_106 q_107 ⟨Nat.le_of_ble_eq_true rfl, Nat.le_of_ble_eq_true rfl⟩ (Nat.le_of_ble_eq_true rfl) dX3_init_1 ?_
  refine g_aload_n hC dX3_init_4 rfl 0 rfl ?_
  refine g_bipush (v := 6) hC dX3_init_5 (by decide) ?_
  refine g_newaC (N' := 6) hC q_132 (by decide) (by decide) (by decide) ⟨Nat.le_of_ble_eq_true rfl, Nat.le_of_ble_eq_true rfl⟩ dX3_init_7 (fun _ => ?_)
  refine g_nm (sz + 1) (gE1 b (some (.inr (3, (gZ 3))))) (nA w sz 10 6) [(0, .ref b)] rfl rfl rfl rfl ?_
  refine g_putEF hC hNm 3 0 rfl (by decide) iX3 tyX3 tyX3_ok nmX3 q_122 rfl rfl rfl rfl (gE1_b _ _) dX3_init_9 ?_
  refine g_nm (sz + 1) (gE1 b (some (.inr (3, (updV (gZ 3) 0 (.ref sz)))))) (nA w sz 10 6) [(0, .ref b)] rfl (gE1_up _ _ _).symm rfl rfl ?_
  refine g_aload_n hC dX3_init_12 rfl 0 rfl ?_
  refine g_iconst (v := 0) hC dX3_init_13 (by decide) ?_
  refine g_putE hC 3 1 rfl (by decide) iX3 tyX3 tyX3_ok nmX3 q_123 rfl  rfl rfl (gE1_b _ _) dX3_init_14 ?_
  refine g_nm (sz + 1) (gE1 b (some (.inr (3, (updV (updV (gZ 3) 0 (.ref sz)) 1 (.int 0)))))) (nA w sz 10 6) [(0, .ref b)] rfl (gE1_up _ _ _).symm rfl rfl ?_
  refine g_takeOb (w' := WW w b sz) (gE1_b _ _) (by decide) (fun q hq => show gSame _ _ q from (gSame.sR hq).tr (gSame.nA hq)) (if_pos rfl) (fun j hj => ?_) ?_
  · have hj : j < 2 := hj
    rcases (show j = 0 ∨ j = 1 by omega) with rfl | rfl <;> simp [updV, gZ, fV, fRf, gI, gR, WW, sI, sR, nA]
  · exact g_end hC hEn rfl dX3_init_17
theorem dX2_init_0 : decode cX2_init 0 = .ok (.aload_n 0, 1) := by decide +kernel
theorem dX2_init_1 : decode cX2_init 1 = .ok (.invokespecial 3, 3) := by decide +kernel
theorem dX2_init_4 : decode cX2_init 4 = .ok (.aload_n 0, 1) := by decide +kernel
theorem dX2_init_5 : decode cX2_init 5 = .ok (.new 9, 3) := by decide +kernel
theorem dX2_init_8 : decode cX2_init 8 = .ok (.dup, 1) := by decide +kernel
theorem dX2_init_9 : decode cX2_init 9 = .ok (.invokespecial 11, 3) := by decide +kernel
theorem dX2_init_12 : decode cX2_init 12 = .ok (.putfield 12, 3) := by decide +kernel
theorem dX2_init_15 : decode cX2_init 15 = .ok (.aload_n 0, 1) := by decide +kernel
theorem dX2_init_16 : decode cX2_init 16 = .ok (.iconst 0, 1) := by decide +kernel
theorem dX2_init_17 : decode cX2_init 17 = .ok (.putfield 18, 3) := by decide +kernel
theorem dX2_init_20 : decode cX2_init 20 = .ok (.aload_n 0, 1) := by decide +kernel
theorem dX2_init_21 : decode cX2_init 21 = .ok (.iconst 0, 1) := by decide +kernel
theorem dX2_init_22 : decode cX2_init 22 = .ok (.putfield 22, 3) := by decide +kernel
theorem dX2_init_25 : decode cX2_init 25 = .ok (.aload_n 0, 1) := by decide +kernel
theorem dX2_init_26 : decode cX2_init 26 = .ok (.iconst 0, 1) := by decide +kernel
theorem dX2_init_27 : decode cX2_init 27 = .ok (.putfield 25, 3) := by decide +kernel
theorem dX2_init_30 : decode cX2_init 30 = .ok (.aload_n 0, 1) := by decide +kernel
theorem dX2_init_31 : decode cX2_init 31 = .ok (.iconst 0, 1) := by decide +kernel
theorem dX2_init_32 : decode cX2_init 32 = .ok (.putfield 28, 3) := by decide +kernel
theorem dX2_init_35 : decode cX2_init 35 = .ok (.aload_n 0, 1) := by decide +kernel
theorem dX2_init_36 : decode cX2_init 36 = .ok (.iconst (-1), 1) := by decide +kernel
theorem dX2_init_37 : decode cX2_init 37 = .ok (.putfield 32, 3) := by decide +kernel
theorem dX2_init_40 : decode cX2_init 40 = .ok (.aload_n 0, 1) := by decide +kernel
theorem dX2_init_41 : decode cX2_init 41 = .ok (.new 35, 3) := by decide +kernel
theorem dX2_init_44 : decode cX2_init 44 = .ok (.dup, 1) := by decide +kernel
theorem dX2_init_45 : decode cX2_init 45 = .ok (.invokespecial 37, 3) := by decide +kernel
theorem dX2_init_48 : decode cX2_init 48 = .ok (.putfield 38, 3) := by decide +kernel
theorem dX2_init_51 : decode cX2_init 51 = .ok (.aload_n 0, 1) := by decide +kernel
theorem dX2_init_52 : decode cX2_init 52 = .ok (.new 35, 3) := by decide +kernel
theorem dX2_init_55 : decode cX2_init 55 = .ok (.dup, 1) := by decide +kernel
theorem dX2_init_56 : decode cX2_init 56 = .ok (.invokespecial 37, 3) := by decide +kernel
theorem dX2_init_59 : decode cX2_init 59 = .ok (.putfield 42, 3) := by decide +kernel
theorem dX2_init_62 : decode cX2_init 62 = .ok (.return_, 1) := by decide +kernel
theorem h9_X2_init : yX2_init.cls ≠ "java/lang/invoke/MethodHandle" ∧ yX2_init.cls ≠ "java/lang/invoke/VarHandle" ∧ (parseMethodDescriptor yX2_init.desc).map (fun d => d.parameters.length) = some 0 := by decide +kernel
set_option maxHeartbeats 4000000 in
set_option maxRecDepth 100000 in
theorem c_X2_init (l : Launch) (D : va_G) (cy : Nat → ClassId) : gSpec l D cy yX2_init cX2_init 1 { frames := 2, cells := 4, slots := 18, locals := 40 } 2 WT 4 := by
  refine g_begin (by decide +kernel) rfl (Nat.le_of_ble_eq_true rfl) (fun X w sz b hC hNm hEn hb0 hb1 => ?_)
  refine g_nm sz (gE1 b (some (.inr (2, gZ 2)))) w [(0, .ref b)] rfl rfl rfl rfl ?_
  refine g_aload_n hC dX2_init_0 rfl 0 rfl ?_
  refine g_objInit hC q_137 q_106 q_107 ⟨Nat.le_of_ble_eq_true rfl, Nat.le_of_ble_eq_true rfl⟩ (Nat.le_of_ble_eq_true rfl) dX2_init_1 ?_
  refine g_aload_n hC dX2_init_4 rfl 0 rfl ?_
  refine g_new hC 3 rfl iX3 tyX3 tyX3_ok q_138 q_117 q_75 dfX3 ⟨Nat.le_of_ble_eq_true rfl, Nat.le_of_ble_eq_true rfl⟩ dX2_init_5 (fun hw9 he9 => ?_)
  refine g_dup hC dX2_init_8 rfl ?_
  refine g_ctorN hC (c_X3_init l D cy) rfl q_120 q_75 q_139 q_119 h9_X3_init ⟨Nat.le_of_ble_eq_true rfl, Nat.le_of_ble_eq_true rfl⟩ ⟨Nat.le_of_ble_eq_true rfl, Nat.le_of_ble_eq_true rfl⟩ (Nat.le_of_ble_eq_true rfl) (gUp_s _ _ _) (fun q h5 h6 => (WW_off h6 (by omega)).1) dX2_init_9 ?_
  refine g_nm (sz + 2) (gE1 b (some (.inr (2, (gZ 2))))) (WW w sz (sz + 1)) [(0, .ref b)] rfl (gUp_back _ he9).symm rfl rfl ?_
  refine g_putEF hC hNm 2 0 rfl (by decide) iX2 tyX2 tyX2_ok nmX2 q_175 rfl rfl rfl rfl (gE1_b _ _) dX2_init_12 ?_
  refine g_nm (sz + 2) (gE1 b (some (.inr (2, (updV (gZ 2) 0 (.ref sz)))))) (WW w sz (sz + 1)) [(0, .ref b)] rfl (gE1_up _ _ _).symm rfl rfl ?_
  refine g_aload_n hC dX2_init_15 rfl 0 rfl ?_
  refine g_iconst (v := 0) hC dX2_init_16 (by decide) ?_
  refine g_putE hC 2 1 rfl (by decide) iX2 tyX2 tyX2_ok nmX2 q_178 rfl  rfl rfl (gE1_b _ _) dX2_init_17 ?_
  refine g_nm (sz + 2) (gE1 b (some (.inr (2, (updV (updV (gZ 2) 0 (.ref sz)) 1 (.int 0)))))) (WW w sz (sz + 1)) [(0, .ref b)] rfl (gE1_up _ _ _).symm rfl rfl ?_
  refine g_aload_n hC dX2_init_20 rfl 0 rfl ?_
  refine g_iconst (v := 0) hC dX2_init_21 (by decide) ?_
  refine g_putE hC 2 2 rfl (by decide) iX2 tyX2 tyX2_ok nmX2 q_181 rfl  rfl rfl (gE1_b _ _) dX2_init_22 ?_
  refine g_nm (sz + 2) (gE1 b (some (.inr (2, (updV (updV (updV (gZ 2) 0 (.ref sz)) 1 (.int 0)) 2 (.int 0)))))) (WW w sz (sz + 1)) [(0, .ref b)] rfl (gE1_up _ _ _).symm rfl rfl ?_
  refine g_aload_n hC dX2_init_25 rfl 0 rfl ?_
  refine g_iconst (v := 0) hC dX2_init_26 (by decide) ?_
  refine g_putE hC 2 3 rfl (by decide) iX2 tyX2 tyX2_ok nmX2 q_184 rfl  rfl rfl (gE1_b _ _) dX2_init_27 ?_
  refine g_nm (sz + 2) (gE1 b (some (.inr (2, (updV (updV (updV (updV (gZ 2) 0 (.ref sz)) 1 (.int 0)) 2 (.int 0)) 3 (.int 0)))))) (WW w sz (sz + 1)) [(0, .ref b)] rfl (gE1_up _ _ _).symm rfl rfl ?_
  refine g_aload_n hC dX2_init_30 rfl 0 rfl ?_
  refine g_iconst (v := 0) hC dX2_init_31 (by decide) ?_
  refine g_putE hC 2 4 rfl (by decide) iX2 tyX2 tyX2_ok nmX2 q_187 rfl  rfl rfl (gE1_b _ _) dX2_init_32 ?_
  refine g_nm (sz + 2) (gE1 b (some (.inr (2, (updV (updV (updV (updV (updV (gZ 2) 0 (.ref sz)) 1 (.int 0)) 2 (.int 0)) 3 (.int 0)) 4 (.int 0)))))) (WW w sz (sz + 1)) [(0, .ref b)] rfl (gE1_up _ _ _).symm rfl rfl ?_
  refine g_aload_n hC dX2_init_35 rfl 0 rfl ?_
  refine g_iconst (v := (-1)) hC dX2_init_36 (by decide) ?_
  refine g_putE hC 2 5 rfl (by decide) iX2 tyX2 tyX2_ok nmX2 q_190 rfl  rfl rfl (gE1_b _ _) dX2_init_37 ?_
  refine g_nm (sz + 2) (gE1 b (some (.inr (2, (updV (updV (updV (updV (updV (updV (gZ 2) 0 (.ref sz)) 1 (.int 0)) 2 (.int 0)) 3 (.int 0)) 4 (.int 0)) 5 (.int (-1))))))) (WW w sz (sz + 1)) [(0, .ref b)] rfl (gE1_up _ _ _).symm rfl rfl ?_
  refine g_aload_n hC dX2_init_40 rfl 0 rfl ?_
  refine g_new hC 0 rfl iX0 tyX0 tyX0_ok q_140 q_141 q_77 dfX0 ⟨Nat.le_of_ble_eq_true rfl, Nat.le_of_ble_eq_true rfl⟩ dX2_init_41 (fun hw9 he9 => ?_)
  refine g_dup hC dX2_init_44 rfl ?_
  refine g_ctorN hC (c_X0_init l D cy) rfl q_144 q_77 q_142 q_143 h9_X0_init ⟨Nat.le_of_ble_eq_true rfl, Nat.le_of_ble_eq_true rfl⟩ ⟨Nat.le_of_ble_eq_true rfl, Nat.le_of_ble_eq_true rfl⟩ (Nat.le_of_ble_eq_true rfl) (gUp_s _ _ _) (fun q h5 h6 => (WH_off h6).1) dX2_init_45 ?_
  refine g_nm (sz + 3) (gE1 b (some (.inr (2, (updV (updV (updV (updV (updV (updV (gZ 2) 0 (.ref sz)) 1 (.int 0)) 2 (.int 0)) 3 (.int 0)) 4 (.int 0)) 5 (.int (-1))))))) (WH (WW w sz (sz + 1)) (sz + 2) (sz + 3)) [(0, .ref b)] rfl (gUp_back _ he9).symm rfl rfl ?_
  refine g_putEF hC hNm 2 6 rfl (by decide) iX2 tyX2 tyX2_ok nmX2 q_193 rfl rfl rfl rfl (gE1_b _ _) dX2_init_48 ?_
  refine g_nm (sz + 3) (gE1 b (some (.inr (2, (updV (updV (updV (updV (updV (updV (updV (gZ 2) 0 (.ref sz)) 1 (.int 0)) 2 (.int 0)) 3 (.int 0)) 4 (.int 0)) 5 (.int (-1))) 6 (.ref (sz + 2))))))) (WH (WW w sz (sz + 1)) (sz + 2) (sz + 3)) [(0, .ref b)] rfl (gE1_up _ _ _).symm rfl rfl ?_
  refine g_aload_n hC dX2_init_51 rfl 0 rfl ?_
  refine g_new hC 0 rfl iX0 tyX0 tyX0_ok q_140 q_141 q_77 dfX0 ⟨Nat.le_of_ble_eq_true rfl, Nat.le_of_ble_eq_true rfl⟩ dX2_init_52 (fun hw9 he9 => ?_)
  refine g_dup hC dX2_init_55 rfl ?_
  refine g_ctorN hC (c_X0_init l D cy) rfl q_144 q_77 q_142 q_143 h9_X0_init ⟨Nat.le_of_ble_eq_true rfl, Nat.le_of_ble_eq_true rfl⟩ ⟨Nat.le_of_ble_eq_true rfl, Nat.le_of_ble_eq_true rfl⟩ (Nat.le_of_ble_eq_true rfl) (gUp_s _ _ _) (fun q h5 h6 => (WH_off h6).1) dX2_init_56 ?_
  refine g_nm (sz + 4) (gE1 b (some (.inr (2, (updV (updV (updV (updV (updV (updV (updV (gZ 2) 0 (.ref sz)) 1 (.int 0)) 2 (.int 0)) 3 (.int 0)) 4 (.int 0)) 5 (.int (-1))) 6 (.ref (sz + 2))))))) (WH (WH (WW w sz (sz + 1)) (sz + 2) (sz + 3)) (sz + 3) (sz + 4)) [(0, .ref b)] rfl (gUp_back _ he9).symm rfl rfl ?_
  refine g_putEF hC hNm 2 7 rfl (by decide) iX2 tyX2 tyX2_ok nmX2 q_196 rfl rfl rfl rfl (gE1_b _ _) dX2_init_59 ?_
  refine g_nm (sz + 4) (gE1 b (some (.inr (2, (updV (updV (updV (updV (updV (updV (updV (updV (gZ 2) 0 (.ref sz)) 1 (.int 0)) 2 (.int 0)) 3 (.int 0)) 4 (.int 0)) 5 (.int (-1))) 6 (.ref (sz + 2))) 7 (.ref (sz + 3))))))) (WH (WH (WW w sz (sz + 1)) (sz + 2) (sz + 3)) (sz + 3) (sz + 4)) [(0, .ref b)] rfl (gE1_up _ _ _).symm rfl rfl ?_
  refine g_takeOb (w' := WT w b sz) (gE1_b _ _) (by decide) (fun q hq => show gSame _ _ q from ((((gSame.sI hq).tr (gSame.sR hq)).tr (gSame.sR hq)).tr (gSame.sR hq)).tr (gSame.nA hq)) (if_pos rfl) (fun j hj => ?_) ?_
  · have hj : j < 8 := hj
    rcases (show j = 0 ∨ j = 1 ∨ j = 2 ∨ j = 3 ∨ j = 4 ∨ j = 5 ∨ j = 6 ∨ j = 7 by omega) with rfl | rfl | rfl | rfl | rfl | rfl | rfl | rfl <;> simp [updV, gZ, fV, fRf, gI, gR, WT, sI, sR, nA]
  · exact g_end hC hEn rfl dX2_init_62
theorem lt8 {j : Nat} (h : j < 8) : ¬ ((Int32.ofNat j : Int32) < 0 ∨ 8 ≤ (Int32.ofNat j).toNatClampNeg) ∧ (Int32.ofNat j).toNatClampNeg = j ∧ (Int32.ofNat j + 1 : Int32) = Int32.ofNat (j + 1) ∧ ¬ (8 : Int32) ≤ Int32.ofNat j := by
  rcases (show j = 0 ∨ j = 1 ∨ j = 2 ∨ j = 3 ∨ j = 4 ∨ j = 5 ∨ j = 6 ∨ j = 7 by omega) with rfl | rfl | rfl | rfl | rfl | rfl | rfl | rfl <;> decide
def gFl (f : Nat → Nat) (j : Nat) : Nat → Value := fun i => if i < j then .ref (f i) else .null
theorem gFl_0 (f : Nat → Nat) : gFl f 0 = fun _ => .null := by
  funext i
  exact if_neg (by omega)
theorem gFl_s (f : Nat → Nat) (j : Nat) : updV (gFl f j) j (.ref (f j)) = gFl f (j + 1) := by
  funext i
  unfold updV gFl
  by_cases h : i = j
  · subst h
    rw [if_pos rfl, if_pos (by omega)]
  · rw [if_neg h]
    by_cases h2 : i < j
    · rw [if_pos h2, if_pos (by omega)]
    · rw [if_neg h2, if_neg (by omega)]
theorem WOt_k4 (w : FW) (sz : Nat) : ∀ j, (WOt w sz j).1 (sz + 4) = 12 ∧ (WOt w sz j).2.1 (sz + 4) = 5
  | 0 => ⟨nA_k _ _ _ _, nA_l _ _ _ _⟩
  | j + 1 => ⟨(WT_off (by omega) (by omega)).1.trans (WOt_k4 w sz j).1, (WT_off (by omega) (by omega)).2.1.trans (WOt_k4 w sz j).2⟩
theorem dX1_init_0 : decode cX1_init 0 = .ok (.aload_n 0, 1) := by decide +kernel
theorem dX1_init_1 : decode cX1_init 1 = .ok (.invokespecial 3, 3) := by decide +kernel
theorem dX1_init_4 : decode cX1_init 4 = .ok (.aload_n 0, 1) := by decide +kernel
theorem dX1_init_5 : decode cX1_init 5 = .ok (.bipush 8, 2) := by decide +kernel
theorem dX1_init_7 : decode cX1_init 7 = .ok (.anewarray 9, 3) := by decide +kernel
theorem dX1_init_10 : decode cX1_init 10 = .ok (.putfield 11, 3) := by decide +kernel
theorem dX1_init_13 : decode cX1_init 13 = .ok (.aload_n 0, 1) := by decide +kernel
theorem dX1_init_14 : decode cX1_init 14 = .ok (.iconst 0, 1) := by decide +kernel
theorem dX1_init_15 : decode cX1_init 15 = .ok (.putfield 17, 3) := by decide +kernel
theorem dX1_init_18 : decode cX1_init 18 = .ok (.aload_n 0, 1) := by decide +kernel
theorem dX1_init_19 : decode cX1_init 19 = .ok (.new 21, 3) := by decide +kernel
theorem dX1_init_22 : decode cX1_init 22 = .ok (.dup, 1) := by decide +kernel
theorem dX1_init_23 : decode cX1_init 23 = .ok (.invokespecial 23, 3) := by decide +kernel
theorem dX1_init_26 : decode cX1_init 26 = .ok (.putfield 24, 3) := by decide +kernel
theorem dX1_init_29 : decode cX1_init 29 = .ok (.aload_n 0, 1) := by decide +kernel
theorem dX1_init_30 : decode cX1_init 30 = .ok (.iconst 3, 1) := by decide +kernel
theorem dX1_init_31 : decode cX1_init 31 = .ok (.newarray .int, 2) := by decide +kernel
theorem dX1_init_33 : decode cX1_init 33 = .ok (.putfield 28, 3) := by decide +kernel
theorem dX1_init_36 : decode cX1_init 36 = .ok (.aload_n 0, 1) := by decide +kernel
theorem dX1_init_37 : decode cX1_init 37 = .ok (.iconst 5, 1) := by decide +kernel
theorem dX1_init_38 : decode cX1_init 38 = .ok (.newarray .boolean, 2) := by decide +kernel
theorem dX1_init_40 : decode cX1_init 40 = .ok (.putfield 32, 3) := by decide +kernel
theorem dX1_init_43 : decode cX1_init 43 = .ok (.aload_n 0, 1) := by decide +kernel
theorem dX1_init_44 : decode cX1_init 44 = .ok (.iconst 0, 1) := by decide +kernel
theorem dX1_init_45 : decode cX1_init 45 = .ok (.putfield 36, 3) := by decide +kernel
theorem dX1_init_48 : decode cX1_init 48 = .ok (.aload_n 0, 1) := by decide +kernel
theorem dX1_init_49 : decode cX1_init 49 = .ok (.iconst 0, 1) := by decide +kernel
theorem dX1_init_50 : decode cX1_init 50 = .ok (.putfield 39, 3) := by decide +kernel
theorem dX1_init_53 : decode cX1_init 53 = .ok (.aload_n 0, 1) := by decide +kernel
theorem dX1_init_54 : decode cX1_init 54 = .ok (.iconst 0, 1) := by decide +kernel
theorem dX1_init_55 : decode cX1_init 55 = .ok (.putfield 42, 3) := by decide +kernel
theorem dX1_init_58 : decode cX1_init 58 = .ok (.aload_n 0, 1) := by decide +kernel
theorem dX1_init_59 : decode cX1_init 59 = .ok (.iconst 0, 1) := by decide +kernel
theorem dX1_init_60 : decode cX1_init 60 = .ok (.putfield 45, 3) := by decide +kernel
theorem dX1_init_63 : decode cX1_init 63 = .ok (.aload_n 0, 1) := by decide +kernel
theorem dX1_init_64 : decode cX1_init 64 = .ok (.iconst 0, 1) := by decide +kernel
theorem dX1_init_65 : decode cX1_init 65 = .ok (.putfield 48, 3) := by decide +kernel
theorem dX1_init_68 : decode cX1_init 68 = .ok (.iconst 0, 1) := by decide +kernel
theorem dX1_init_69 : decode cX1_init 69 = .ok (.istore_n 1, 1) := by decide +kernel
theorem dX1_init_70 : decode cX1_init 70 = .ok (.iload_n 1, 1) := by decide +kernel
theorem dX1_init_71 : decode cX1_init 71 = .ok (.bipush 8, 2) := by decide +kernel
theorem dX1_init_73 : decode cX1_init 73 = .ok (.if_icmp .ge 22, 3) := by decide +kernel
theorem dX1_init_76 : decode cX1_init 76 = .ok (.aload_n 0, 1) := by decide +kernel
theorem dX1_init_77 : decode cX1_init 77 = .ok (.getfield 11, 3) := by decide +kernel
theorem dX1_init_80 : decode cX1_init 80 = .ok (.iload_n 1, 1) := by decide +kernel
theorem dX1_init_81 : decode cX1_init 81 = .ok (.new 9, 3) := by decide +kernel
theorem dX1_init_84 : decode cX1_init 84 = .ok (.dup, 1) := by decide +kernel
theorem dX1_init_85 : decode cX1_init 85 = .ok (.invokespecial 51, 3) := by decide +kernel
theorem dX1_init_88 : decode cX1_init 88 = .ok (.aastore, 1) := by decide +kernel
theorem dX1_init_89 : decode cX1_init 89 = .ok (.iinc 1 1, 3) := by decide +kernel
theorem dX1_init_92 : decode cX1_init 92 = .ok (.goto (-22), 3) := by decide +kernel
theorem dX1_init_95 : decode cX1_init 95 = .ok (.iconst 0, 1) := by decide +kernel
theorem dX1_init_96 : decode cX1_init 96 = .ok (.istore_n 1, 1) := by decide +kernel
theorem dX1_init_97 : decode cX1_init 97 = .ok (.iload_n 1, 1) := by decide +kernel
theorem dX1_init_98 : decode cX1_init 98 = .ok (.iconst 5, 1) := by decide +kernel
theorem dX1_init_99 : decode cX1_init 99 = .ok (.if_icmp .ge 16, 3) := by decide +kernel
theorem dX1_init_102 : decode cX1_init 102 = .ok (.aload_n 0, 1) := by decide +kernel
theorem dX1_init_103 : decode cX1_init 103 = .ok (.getfield 32, 3) := by decide +kernel
theorem dX1_init_106 : decode cX1_init 106 = .ok (.iload_n 1, 1) := by decide +kernel
theorem dX1_init_107 : decode cX1_init 107 = .ok (.iconst 1, 1) := by decide +kernel
theorem dX1_init_108 : decode cX1_init 108 = .ok (.bastore, 1) := by decide +kernel
theorem dX1_init_109 : decode cX1_init 109 = .ok (.iinc 1 1, 3) := by decide +kernel
theorem dX1_init_112 : decode cX1_init 112 = .ok (.goto (-15), 3) := by decide +kernel
theorem dX1_init_115 : decode cX1_init 115 = .ok (.return_, 1) := by decide +kernel
theorem h9_X1_init : yX1_init.cls ≠ "java/lang/invoke/MethodHandle" ∧ yX1_init.cls ≠ "java/lang/invoke/VarHandle" ∧ (parseMethodDescriptor yX1_init.desc).map (fun d => d.parameters.length) = some 0 := by decide +kernel
set_option maxHeartbeats 4000000 in
theorem c_X1_open (l : Launch) (D : va_G) (cy : Nat → ClassId) {X : FX} {w : FW} {sz b : Nat} {V : Nat → Value} (hC : fOK X cX1_init 2 RX1 { frames := 3, cells := 45, slots := 232, locals := 60 } l D cy) (hb1 : b < sz) (hV : V 4 = .ref (sz + 4))
    (kk : gAt X 45 232 2 (WOo w sz 5) (sz + 45) (gE2 b (some (.inr (1, V))) sz (some (.inl (arrV (cy 4) 8 (gFl (fun i => sz + 5 + 5 * i) 8))))) [(1, .int 5), (0, .ref b)] [] 115) :
    ∀ n j, j + n = 5 → gAt X 45 232 2 (WOo w sz j) (sz + 45) (gE2 b (some (.inr (1, V))) sz (some (.inl (arrV (cy 4) 8 (gFl (fun i => sz + 5 + 5 * i) 8))))) [(1, .int (Int32.ofNat j)), (0, .ref b)] [] 97 := by
  have hk : ∀ j, (WOo w sz j).1 (sz + 4) = 12 := fun j => by
    induction j with
    | zero => exact ((WOt_k4 w sz 8).1)
    | succ j ih => exact ih
  have hl : ∀ j, (WOo w sz j).2.1 (sz + 4) = 5 := fun j => by
    induction j with
    | zero => exact ((WOt_k4 w sz 8).2)
    | succ j ih => exact ih
  intro n
  induction n with
  | zero =>
    intro j hj
    have : j = 5 := by omega
    subst this
    refine g_iload_n hC dX1_init_97 rfl 0 rfl ?_
    refine g_iconst (v := 5) hC dX1_init_98 (by decide) ?_
    refine g_icmp_ge hC 115 dX1_init_99 rfl (fun _ => kk) (fun h => absurd h (by decide))
  | succ n ih =>
    intro j hj
    have hj5 : j < 5 := by omega
    have h9 : ¬ (5 : Int32) ≤ Int32.ofNat j ∧ (Int32.ofNat j).toNatClampNeg = j ∧ (Int32.ofNat j + 1 : Int32) = Int32.ofNat (j + 1) ∧ ¬ (Int32.ofNat j < 0 ∨ 5 ≤ (Int32.ofNat j).toNatClampNeg) := by
      rcases (show j = 0 ∨ j = 1 ∨ j = 2 ∨ j = 3 ∨ j = 4 by omega) with rfl | rfl | rfl | rfl | rfl <;> decide
    refine g_iload_n hC dX1_init_97 rfl 0 rfl ?_
    refine g_iconst (v := 5) hC dX1_init_98 (by decide) ?_
    refine g_icmp_ge hC 115 dX1_init_99 rfl (fun h => absurd h h9.1) (fun _ => ?_)
    refine g_aload_n hC dX1_init_102 rfl 1 rfl ?_
    refine g_getE (v := .ref (sz + 4)) hC 1 4 rfl (by decide) iX1 q_224 (gE2_b _ _ (by omega)) hV dX1_init_103 ?_
    refine g_iload_n hC dX1_init_106 rfl 0 rfl ?_
    refine g_iconst (v := 1) hC dX1_init_107 (by decide) ?_
    refine g_zast hC (by decide) (hk j) (by unfold vp_in; rw [hl j]; exact h9.2.2.2) dX1_init_108 ?_
    refine g_iinc (L' := [(1, .int (Int32.ofNat (j + 1))), (0, .ref b)]) (v := Int32.ofNat (j + 1)) hC dX1_init_109 0 rfl h9.2.2.1 (by decide) rfl ?_
    refine g_goto hC 97 dX1_init_112 rfl ?_
    refine g_nm (sz + 45) _ (WOo w sz (j + 1)) _ rfl rfl ?_ rfl (ih (j + 1) (by omega))
    rw [h9.2.1]
    rfl
set_option maxHeartbeats 4000000 in
theorem c_X1_tick (l : Launch) (D : va_G) (cy : Nat → ClassId) {X : FX} {w : FW} {sz b : Nat} {V : Nat → Value} (hC : fOK X cX1_init 2 RX1 { frames := 3, cells := 45, slots := 232, locals := 60 } l D cy) (hb1 : b < sz) (hV : V 0 = .ref sz)
    (kk : gAt X (5 + 5 * 8) (24 + 26 * 8) 2 (WOt w sz 8) ((sz + 5) + 5 * 8) (gE2 b (some (.inr (1, V))) sz (some (.inl (arrV (cy 4) 8 (gFl (fun i => sz + 5 + 5 * i) 8))))) [(1, .int 8), (0, .ref b)] [] 95) :
    ∀ n j, j + n = 8 → gAt X (5 + 5 * j) (24 + 26 * j) 2 (WOt w sz j) ((sz + 5) + 5 * j) (gE2 b (some (.inr (1, V))) sz (some (.inl (arrV (cy 4) 8 (gFl (fun i => sz + 5 + 5 * i) j))))) [(1, .int (Int32.ofNat j)), (0, .ref b)] [] 70 := by
  intro n
  induction n with
  | zero =>
    intro j hj
    have : j = 8 := by omega
    subst this
    refine g_iload_n hC dX1_init_70 rfl 0 rfl ?_
    refine g_bipush (v := 8) hC dX1_init_71 (by decide) ?_
    refine g_icmp_ge hC 95 dX1_init_73 rfl (fun _ => kk) (fun h => absurd h (by decide))
  | succ n ih =>
    intro j hj
    have h9 := lt8 (j := j) (by omega)
    refine g_iload_n hC dX1_init_70 rfl 0 rfl ?_
    refine g_bipush (v := 8) hC dX1_init_71 (by decide) ?_
    refine g_icmp_ge hC 95 dX1_init_73 rfl (fun h => absurd h h9.2.2.2) (fun _ => ?_)
    refine g_aload_n hC dX1_init_76 rfl 1 rfl ?_
    refine g_getE (v := .ref sz) hC 1 0 rfl (by decide) iX1 q_216 (gE2_b _ _ (by omega)) hV dX1_init_77 ?_
    refine g_iload_n hC dX1_init_80 rfl 0 rfl ?_
    refine g_new hC 2 rfl iX2 tyX2 tyX2_ok q_114 q_133 q_76 dfX2 ⟨by show _ ≤ 45; omega, by show _ ≤ 232; omega⟩ dX1_init_81 (fun hw9 he9 => ?_)
    refine g_dup hC dX1_init_84 rfl ?_
    refine g_ctorN hC (c_X2_init l D cy) rfl q_136 q_76 q_134 q_135 h9_X2_init ⟨Nat.le_of_ble_eq_true rfl, Nat.le_of_ble_eq_true rfl⟩ ⟨by show _ + 4 ≤ 45; omega, by show _ + 18 ≤ 232; omega⟩ (Nat.le_of_ble_eq_true rfl) (gUp_s _ _ _) (fun q h5 h6 => (WT_off h6 (by omega)).1) dX1_init_85 ?_
    refine g_nm _ _ _ _ rfl (gUp_back _ he9).symm rfl rfl ?_
    refine g_aastE1 hC (gE2_a _ _ _ _) ?_ h9.1 dX1_init_88 ?_
    · exact WT_k _ _ _
    refine g_iinc (L' := [(1, .int (Int32.ofNat (j + 1))), (0, .ref b)]) (v := Int32.ofNat (j + 1)) hC dX1_init_89 0 rfl h9.2.2.1 (by decide) rfl ?_
    refine g_goto hC 70 dX1_init_92 rfl ?_
    refine g_cs (5 + 5 * (j + 1)) (24 + 26 * (j + 1)) (by show _ = _ + 4; omega) (by show _ = _ + 18; omega) ?_
    refine g_nm _ _ _ _ (by omega) ?_ ?_ rfl (ih (j + 1) (by omega))
    · rw [gE2_upa, h9.2.1, ← gFl_s]
    · show WT _ _ _ = WT _ _ _
      congr 1
      omega
set_option maxHeartbeats 4000000 in
set_option maxRecDepth 100000 in
theorem c_X1_init (l : Launch) (D : va_G) (cy : Nat → ClassId) : gSpec l D cy yX1_init cX1_init 2 { frames := 3, cells := 45, slots := 232, locals := 60 } 1 WO 45 := by
  refine g_begin (by decide +kernel) rfl (Nat.le_of_ble_eq_true rfl) (fun X w sz b hC hNm hEn hb0 hb1 => ?_)
  refine g_nm sz (gE1 b (some (.inr (1, gZ 1)))) w [(0, .ref b)] rfl rfl rfl rfl ?_
  refine g_aload_n hC dX1_init_0 rfl 0 rfl ?_
  refine g_objInit hC q_113 q_106 q_107 ⟨Nat.le_of_ble_eq_true rfl, Nat.le_of_ble_eq_true rfl⟩ (Nat.le_of_ble_eq_true rfl) dX1_init_1 ?_
  refine g_aload_n hC dX1_init_4 rfl 0 rfl ?_
  refine g_bipush (v := 8) hC dX1_init_5 (by decide) ?_
  refine g_anew1 (N' := 8) hC q_114 q_115 (by decide) (by decide) (by decide) ⟨Nat.le_of_ble_eq_true rfl, Nat.le_of_ble_eq_true rfl⟩ dX1_init_7 (fun _ _ => ?_)
  refine g_nm (sz + 1) (gE2 b (some (.inr (1, (gZ 1)))) sz (some (.inl (arrV (cy 4) 8 (fun _ => .null))))) w [(0, .ref b)] rfl rfl rfl rfl ?_
  refine g_putEF hC hNm 1 0 rfl (by decide) iX1 tyX1 tyX1_ok nmX1 q_216 rfl rfl rfl rfl (gE2_b _ _ (by omega)) dX1_init_10 ?_
  refine g_nm (sz + 1) (gE2 b (some (.inr (1, (updV (gZ 1) 0 (.ref sz))))) sz (some (.inl (arrV (cy 4) 8 (fun _ => .null))))) w [(0, .ref b)] rfl (gE2_upb _ _ _ (by omega)).symm rfl rfl ?_
  refine g_aload_n hC dX1_init_13 rfl 0 rfl ?_
  refine g_iconst (v := 0) hC dX1_init_14 (by decide) ?_
  refine g_putE hC 1 1 rfl (by decide) iX1 tyX1 tyX1_ok nmX1 q_218 rfl  rfl rfl (gE2_b _ _ (by omega)) dX1_init_15 ?_
  refine g_nm (sz + 1) (gE2 b (some (.inr (1, (updV (updV (gZ 1) 0 (.ref sz)) 1 (.int 0))))) sz (some (.inl (arrV (cy 4) 8 (fun _ => .null))))) w [(0, .ref b)] rfl (gE2_upb _ _ _ (by omega)).symm rfl rfl ?_
  refine g_aload_n hC dX1_init_18 rfl 0 rfl ?_
  refine g_new hC 3 rfl iX3 tyX3 tyX3_ok q_116 q_117 q_75 dfX3 ⟨Nat.le_of_ble_eq_true rfl, Nat.le_of_ble_eq_true rfl⟩ dX1_init_19 (fun hw9 he9 => ?_)
  refine g_dup hC dX1_init_22 rfl ?_
  refine g_ctorN hC (c_X3_init l D cy) rfl q_120 q_75 q_118 q_119 h9_X3_init ⟨Nat.le_of_ble_eq_true rfl, Nat.le_of_ble_eq_true rfl⟩ ⟨Nat.le_of_ble_eq_true rfl, Nat.le_of_ble_eq_true rfl⟩ (Nat.le_of_ble_eq_true rfl) (gUp_s _ _ _) (fun q h5 h6 => (WW_off h6 (by omega)).1) dX1_init_23 ?_
  refine g_nm (sz + 3) (gE2 b (some (.inr (1, (updV (updV (gZ 1) 0 (.ref sz)) 1 (.int 0))))) sz (some (.inl (arrV (cy 4) 8 (fun _ => .null))))) (WW w (sz + 1) (sz + 2)) [(0, .ref b)] rfl (gUp_back _ he9).symm rfl rfl ?_
  refine g_putEF hC hNm 1 2 rfl (by decide) iX1 tyX1 tyX1_ok nmX1 q_220 rfl rfl rfl rfl (gE2_b _ _ (by omega)) dX1_init_26 ?_
  refine g_nm (sz + 3) (gE2 b (some (.inr (1, (updV (updV (updV (gZ 1) 0 (.ref sz)) 1 (.int 0)) 2 (.ref (sz + 1)))))) sz (some (.inl (arrV (cy 4) 8 (fun _ => .null))))) (WW w (sz + 1) (sz + 2)) [(0, .ref b)] rfl (gE2_upb _ _ _ (by omega)).symm rfl rfl ?_
  refine g_aload_n hC dX1_init_29 rfl 0 rfl ?_
  refine g_iconst (v := 3) hC dX1_init_30 (by decide) ?_
  refine g_newaI (N' := 3) hC q_173 (by decide) (by decide) (by decide) ⟨Nat.le_of_ble_eq_true rfl, Nat.le_of_ble_eq_true rfl⟩ dX1_init_31 (fun _ => ?_)
  refine g_nm (sz + 4) (gE2 b (some (.inr (1, (updV (updV (updV (gZ 1) 0 (.ref sz)) 1 (.int 0)) 2 (.ref (sz + 1)))))) sz (some (.inl (arrV (cy 4) 8 (fun _ => .null))))) (nA (WW w (sz + 1) (sz + 2)) (sz + 3) 11 3) [(0, .ref b)] rfl rfl rfl rfl ?_
  refine g_putEF hC hNm 1 3 rfl (by decide) iX1 tyX1 tyX1_ok nmX1 q_222 rfl rfl rfl rfl (gE2_b _ _ (by omega)) dX1_init_33 ?_
  refine g_nm (sz + 4) (gE2 b (some (.inr (1, (updV (updV (updV (updV (gZ 1) 0 (.ref sz)) 1 (.int 0)) 2 (.ref (sz + 1))) 3 (.ref (sz + 3)))))) sz (some (.inl (arrV (cy 4) 8 (fun _ => .null))))) (nA (WW w (sz + 1) (sz + 2)) (sz + 3) 11 3) [(0, .ref b)] rfl (gE2_upb _ _ _ (by omega)).symm rfl rfl ?_
  refine g_aload_n hC dX1_init_36 rfl 0 rfl ?_
  refine g_iconst (v := 5) hC dX1_init_37 (by decide) ?_
  refine g_newaZ (N' := 5) hC q_174 (by decide) (by decide) (by decide) ⟨Nat.le_of_ble_eq_true rfl, Nat.le_of_ble_eq_true rfl⟩ dX1_init_38 (fun _ => ?_)
  refine g_nm (sz + 5) (gE2 b (some (.inr (1, (updV (updV (updV (updV (gZ 1) 0 (.ref sz)) 1 (.int 0)) 2 (.ref (sz + 1))) 3 (.ref (sz + 3)))))) sz (some (.inl (arrV (cy 4) 8 (fun _ => .null))))) (nA (nA (WW w (sz + 1) (sz + 2)) (sz + 3) 11 3) (sz + 4) 12 5) [(0, .ref b)] rfl rfl rfl rfl ?_
  refine g_putEF hC hNm 1 4 rfl (by decide) iX1 tyX1 tyX1_ok nmX1 q_224 rfl rfl rfl rfl (gE2_b _ _ (by omega)) dX1_init_40 ?_
  refine g_nm (sz + 5) (gE2 b (some (.inr (1, (updV (updV (updV (updV (updV (gZ 1) 0 (.ref sz)) 1 (.int 0)) 2 (.ref (sz + 1))) 3 (.ref (sz + 3))) 4 (.ref (sz + 4)))))) sz (some (.inl (arrV (cy 4) 8 (fun _ => .null))))) (nA (nA (WW w (sz + 1) (sz + 2)) (sz + 3) 11 3) (sz + 4) 12 5) [(0, .ref b)] rfl (gE2_upb _ _ _ (by omega)).symm rfl rfl ?_
  refine g_aload_n hC dX1_init_43 rfl 0 rfl ?_
  refine g_iconst (v := 0) hC dX1_init_44 (by decide) ?_
  refine g_putE hC 1 5 rfl (by decide) iX1 tyX1 tyX1_ok nmX1 q_226 rfl  rfl rfl (gE2_b _ _ (by omega)) dX1_init_45 ?_
  refine g_nm (sz + 5) (gE2 b (some (.inr (1, (updV (updV (updV (updV (updV (updV (gZ 1) 0 (.ref sz)) 1 (.int 0)) 2 (.ref (sz + 1))) 3 (.ref (sz + 3))) 4 (.ref (sz + 4))) 5 (.int 0))))) sz (some (.inl (arrV (cy 4) 8 (fun _ => .null))))) (nA (nA (WW w (sz + 1) (sz + 2)) (sz + 3) 11 3) (sz + 4) 12 5) [(0, .ref b)] rfl (gE2_upb _ _ _ (by omega)).symm rfl rfl ?_
  refine g_aload_n hC dX1_init_48 rfl 0 rfl ?_
  refine g_iconst (v := 0) hC dX1_init_49 (by decide) ?_
  refine g_putE hC 1 6 rfl (by decide) iX1 tyX1 tyX1_ok nmX1 q_228 rfl  rfl rfl (gE2_b _ _ (by omega)) dX1_init_50 ?_
  refine g_nm (sz + 5) (gE2 b (some (.inr (1, (updV (updV (updV (updV (updV (updV (updV (gZ 1) 0 (.ref sz)) 1 (.int 0)) 2 (.ref (sz + 1))) 3 (.ref (sz + 3))) 4 (.ref (sz + 4))) 5 (.int 0)) 6 (.int 0))))) sz (some (.inl (arrV (cy 4) 8 (fun _ => .null))))) (nA (nA (WW w (sz + 1) (sz + 2)) (sz + 3) 11 3) (sz + 4) 12 5) [(0, .ref b)] rfl (gE2_upb _ _ _ (by omega)).symm rfl rfl ?_
  refine g_aload_n hC dX1_init_53 rfl 0 rfl ?_
  refine g_iconst (v := 0) hC dX1_init_54 (by decide) ?_
  refine g_putE hC 1 7 rfl (by decide) iX1 tyX1 tyX1_ok nmX1 q_230 rfl  rfl rfl (gE2_b _ _ (by omega)) dX1_init_55 ?_
  refine g_nm (sz + 5) (gE2 b (some (.inr (1, (updV (updV (updV (updV (updV (updV (updV (updV (gZ 1) 0 (.ref sz)) 1 (.int 0)) 2 (.ref (sz + 1))) 3 (.ref (sz + 3))) 4 (.ref (sz + 4))) 5 (.int 0)) 6 (.int 0)) 7 (.int 0))))) sz (some (.inl (arrV (cy 4) 8 (fun _ => .null))))) (nA (nA (WW w (sz + 1) (sz + 2)) (sz + 3) 11 3) (sz + 4) 12 5) [(0, .ref b)] rfl (gE2_upb _ _ _ (by omega)).symm rfl rfl ?_
  refine g_aload_n hC dX1_init_58 rfl 0 rfl ?_
  refine g_iconst (v := 0) hC dX1_init_59 (by decide) ?_
  refine g_putE hC 1 8 rfl (by decide) iX1 tyX1 tyX1_ok nmX1 q_232 rfl  rfl rfl (gE2_b _ _ (by omega)) dX1_init_60 ?_
  refine g_nm (sz + 5) (gE2 b (some (.inr (1, (updV (updV (updV (updV (updV (updV (updV (updV (updV (gZ 1) 0 (.ref sz)) 1 (.int 0)) 2 (.ref (sz + 1))) 3 (.ref (sz + 3))) 4 (.ref (sz + 4))) 5 (.int 0)) 6 (.int 0)) 7 (.int 0)) 8 (.int 0))))) sz (some (.inl (arrV (cy 4) 8 (fun _ => .null))))) (nA (nA (WW w (sz + 1) (sz + 2)) (sz + 3) 11 3) (sz + 4) 12 5) [(0, .ref b)] rfl (gE2_upb _ _ _ (by omega)).symm rfl rfl ?_
  refine g_aload_n hC dX1_init_63 rfl 0 rfl ?_
  refine g_iconst (v := 0) hC dX1_init_64 (by decide) ?_
  refine g_putE hC 1 9 rfl (by decide) iX1 tyX1 tyX1_ok nmX1 q_234 rfl  rfl rfl (gE2_b _ _ (by omega)) dX1_init_65 ?_
  refine g_nm (sz + 5) (gE2 b (some (.inr (1, (updV (updV (updV (updV (updV (updV (updV (updV (updV (updV (gZ 1) 0 (.ref sz)) 1 (.int 0)) 2 (.ref (sz + 1))) 3 (.ref (sz + 3))) 4 (.ref (sz + 4))) 5 (.int 0)) 6 (.int 0)) 7 (.int 0)) 8 (.int 0)) 9 (.int 0))))) sz (some (.inl (arrV (cy 4) 8 (fun _ => .null))))) (nA (nA (WW w (sz + 1) (sz + 2)) (sz + 3) 11 3) (sz + 4) 12 5) [(0, .ref b)] rfl (gE2_upb _ _ _ (by omega)).symm rfl rfl ?_
  refine g_iconst (v := 0) hC dX1_init_68 (by decide) ?_
  refine g_istore_n (L' := [(1, .int 0), (0, .ref b)]) hC dX1_init_69 rfl (by decide) rfl ?_
  refine g_cs (5 + 5 * 0) (24 + 26 * 0) rfl rfl ?_
  refine g_nm (sz + 5 + 5 * 0) (gE2 b (some (.inr (1, (updV (updV (updV (updV (updV (updV (updV (updV (updV (updV (gZ 1) 0 (.ref sz)) 1 (.int 0)) 2 (.ref (sz + 1))) 3 (.ref (sz + 3))) 4 (.ref (sz + 4))) 5 (.int 0)) 6 (.int 0)) 7 (.int 0)) 8 (.int 0)) 9 (.int 0))))) sz (some (.inl (arrV (cy 4) 8 (gFl (fun i => sz + 5 + 5 * i) 0))))) (WOt w sz 0) [(1, .int (Int32.ofNat 0)), (0, .ref b)] rfl (by rw [gFl_0]) rfl rfl ?_
  refine c_X1_tick l D cy hC hb1 rfl ?_ 8 0 rfl
  refine g_iconst (v := 0) hC dX1_init_95 (by decide) ?_
  refine g_istore_n (L' := [(1, .int (Int32.ofNat 0)), (0, .ref b)]) hC dX1_init_96 rfl (by decide) rfl ?_
  refine g_cs 45 232 rfl rfl ?_
  refine g_nm (sz + 45) _ (WOo w sz 0) _ rfl rfl rfl rfl ?_
  refine c_X1_open l D cy hC hb1 rfl ?_ 5 0 rfl
  refine g_takeAr (w' := WOf w sz) hC (j := 1) (by decide) (gE2_a _ _ _ _) (gOff.nF _ _ _ _ _ _) (nF_k _ _ _ _ _ _) (nF_l _ _ _ _ _ _) (fun i hi => ?_) ?_
  · exact (if_pos hi).trans (congrArg _ (nF_R (WOo w sz 5) sz 14 8 604 i (fun i => sz + 5 + 5 * i)).symm)
  refine g_nm _ (gE1 b (some (.inr (1, (updV (updV (updV (updV (updV (updV (updV (updV (updV (updV (gZ 1) 0 (.ref sz)) 1 (.int 0)) 2 (.ref (sz + 1))) 3 (.ref (sz + 3))) 4 (.ref (sz + 4))) 5 (.int 0)) 6 (.int 0)) 7 (.int 0)) 8 (.int 0)) 9 (.int 0)))))) _ _ rfl ?_ rfl rfl ?_
  · exact (gE2_none (by omega)).symm
  refine g_takeOb (w' := WO w b sz) (gE1_b _ _) (by decide) (fun q hq => show gSame _ _ q from ((((gSame.sR hq).tr (gSame.sR hq)).tr (gSame.sR hq)).tr (gSame.sR hq)).tr (gSame.nA hq)) (if_pos rfl) (fun j hj => ?_) ?_
  · have hj : j < 10 := hj
    rcases (show j = 0 ∨ j = 1 ∨ j = 2 ∨ j = 3 ∨ j = 4 ∨ j = 5 ∨ j = 6 ∨ j = 7 ∨ j = 8 ∨ j = 9 by omega) with rfl | rfl | rfl | rfl | rfl | rfl | rfl | rfl | rfl | rfl <;> simp [updV, gZ, fV, fRf, gI, gR, WO, sI, sR, nA]
  · exact g_end hC hEn rfl dX1_init_115
theorem dX4_init_0 : decode cX4_init 0 = .ok (.aload_n 0, 1) := by decide +kernel
theorem dX4_init_1 : decode cX4_init 1 = .ok (.invokespecial 3, 3) := by decide +kernel
theorem dX4_init_4 : decode cX4_init 4 = .ok (.aload_n 0, 1) := by decide +kernel
theorem dX4_init_5 : decode cX4_init 5 = .ok (.new 9, 3) := by decide +kernel
theorem dX4_init_8 : decode cX4_init 8 = .ok (.dup, 1) := by decide +kernel
theorem dX4_init_9 : decode cX4_init 9 = .ok (.invokespecial 11, 3) := by decide +kernel
theorem dX4_init_12 : decode cX4_init 12 = .ok (.putfield 12, 3) := by decide +kernel
theorem dX4_init_15 : decode cX4_init 15 = .ok (.aload_n 0, 1) := by decide +kernel
theorem dX4_init_16 : decode cX4_init 16 = .ok (.new 9, 3) := by decide +kernel
theorem dX4_init_19 : decode cX4_init 19 = .ok (.dup, 1) := by decide +kernel
theorem dX4_init_20 : decode cX4_init 20 = .ok (.invokespecial 11, 3) := by decide +kernel
theorem dX4_init_23 : decode cX4_init 23 = .ok (.putfield 16, 3) := by decide +kernel
theorem dX4_init_26 : decode cX4_init 26 = .ok (.aload_n 0, 1) := by decide +kernel
theorem dX4_init_27 : decode cX4_init 27 = .ok (.new 9, 3) := by decide +kernel
theorem dX4_init_30 : decode cX4_init 30 = .ok (.dup, 1) := by decide +kernel
theorem dX4_init_31 : decode cX4_init 31 = .ok (.invokespecial 11, 3) := by decide +kernel
theorem dX4_init_34 : decode cX4_init 34 = .ok (.putfield 19, 3) := by decide +kernel
theorem dX4_init_37 : decode cX4_init 37 = .ok (.aload_n 0, 1) := by decide +kernel
theorem dX4_init_38 : decode cX4_init 38 = .ok (.iconst 0, 1) := by decide +kernel
theorem dX4_init_39 : decode cX4_init 39 = .ok (.putfield 22, 3) := by decide +kernel
theorem dX4_init_42 : decode cX4_init 42 = .ok (.aload_n 0, 1) := by decide +kernel
theorem dX4_init_43 : decode cX4_init 43 = .ok (.bipush 8, 2) := by decide +kernel
theorem dX4_init_45 : decode cX4_init 45 = .ok (.anewarray 9, 3) := by decide +kernel
theorem dX4_init_48 : decode cX4_init 48 = .ok (.putfield 26, 3) := by decide +kernel
theorem dX4_init_51 : decode cX4_init 51 = .ok (.aload_n 0, 1) := by decide +kernel
theorem dX4_init_52 : decode cX4_init 52 = .ok (.iconst 0, 1) := by decide +kernel
theorem dX4_init_53 : decode cX4_init 53 = .ok (.putfield 30, 3) := by decide +kernel
theorem dX4_init_56 : decode cX4_init 56 = .ok (.aload_n 0, 1) := by decide +kernel
theorem dX4_init_57 : decode cX4_init 57 = .ok (.new 34, 3) := by decide +kernel
theorem dX4_init_60 : decode cX4_init 60 = .ok (.dup, 1) := by decide +kernel
theorem dX4_init_61 : decode cX4_init 61 = .ok (.invokespecial 36, 3) := by decide +kernel
theorem dX4_init_64 : decode cX4_init 64 = .ok (.putfield 37, 3) := by decide +kernel
theorem dX4_init_67 : decode cX4_init 67 = .ok (.aload_n 0, 1) := by decide +kernel
theorem dX4_init_68 : decode cX4_init 68 = .ok (.bipush 60, 2) := by decide +kernel
theorem dX4_init_70 : decode cX4_init 70 = .ok (.newarray .char, 2) := by decide +kernel
theorem dX4_init_72 : decode cX4_init 72 = .ok (.putfield 41, 3) := by decide +kernel
theorem dX4_init_75 : decode cX4_init 75 = .ok (.aload_n 0, 1) := by decide +kernel
theorem dX4_init_76 : decode cX4_init 76 = .ok (.iconst 0, 1) := by decide +kernel
theorem dX4_init_77 : decode cX4_init 77 = .ok (.putfield 45, 3) := by decide +kernel
theorem dX4_init_80 : decode cX4_init 80 = .ok (.aload_n 0, 1) := by decide +kernel
theorem dX4_init_81 : decode cX4_init 81 = .ok (.bipush 17, 2) := by decide +kernel
theorem dX4_init_83 : decode cX4_init 83 = .ok (.newarray .char, 2) := by decide +kernel
theorem dX4_init_85 : decode cX4_init 85 = .ok (.putfield 48, 3) := by decide +kernel
theorem dX4_init_88 : decode cX4_init 88 = .ok (.aload_n 0, 1) := by decide +kernel
theorem dX4_init_89 : decode cX4_init 89 = .ok (.iconst 0, 1) := by decide +kernel
theorem dX4_init_90 : decode cX4_init 90 = .ok (.putfield 51, 3) := by decide +kernel
theorem dX4_init_93 : decode cX4_init 93 = .ok (.aload_n 0, 1) := by decide +kernel
theorem dX4_init_94 : decode cX4_init 94 = .ok (.iconst 0, 1) := by decide +kernel
theorem dX4_init_95 : decode cX4_init 95 = .ok (.putfield 54, 3) := by decide +kernel
theorem dX4_init_98 : decode cX4_init 98 = .ok (.aload_n 0, 1) := by decide +kernel
theorem dX4_init_99 : decode cX4_init 99 = .ok (.iconst 0, 1) := by decide +kernel
theorem dX4_init_100 : decode cX4_init 100 = .ok (.putfield 57, 3) := by decide +kernel
theorem dX4_init_103 : decode cX4_init 103 = .ok (.aload_n 0, 1) := by decide +kernel
theorem dX4_init_104 : decode cX4_init 104 = .ok (.iconst (-1), 1) := by decide +kernel
theorem dX4_init_105 : decode cX4_init 105 = .ok (.putfield 60, 3) := by decide +kernel
theorem dX4_init_108 : decode cX4_init 108 = .ok (.aload_n 0, 1) := by decide +kernel
theorem dX4_init_109 : decode cX4_init 109 = .ok (.iconst (-1), 1) := by decide +kernel
theorem dX4_init_110 : decode cX4_init 110 = .ok (.putfield 63, 3) := by decide +kernel
theorem dX4_init_113 : decode cX4_init 113 = .ok (.iconst 0, 1) := by decide +kernel
theorem dX4_init_114 : decode cX4_init 114 = .ok (.istore_n 1, 1) := by decide +kernel
theorem dX4_init_115 : decode cX4_init 115 = .ok (.iload_n 1, 1) := by decide +kernel
theorem dX4_init_116 : decode cX4_init 116 = .ok (.bipush 8, 2) := by decide +kernel
theorem dX4_init_118 : decode cX4_init 118 = .ok (.if_icmp .ge 22, 3) := by decide +kernel
theorem dX4_init_121 : decode cX4_init 121 = .ok (.aload_n 0, 1) := by decide +kernel
theorem dX4_init_122 : decode cX4_init 122 = .ok (.getfield 26, 3) := by decide +kernel
theorem dX4_init_125 : decode cX4_init 125 = .ok (.iload_n 1, 1) := by decide +kernel
theorem dX4_init_126 : decode cX4_init 126 = .ok (.new 9, 3) := by decide +kernel
theorem dX4_init_129 : decode cX4_init 129 = .ok (.dup, 1) := by decide +kernel
theorem dX4_init_130 : decode cX4_init 130 = .ok (.invokespecial 11, 3) := by decide +kernel
theorem dX4_init_133 : decode cX4_init 133 = .ok (.aastore, 1) := by decide +kernel
theorem dX4_init_134 : decode cX4_init 134 = .ok (.iinc 1 1, 3) := by decide +kernel
theorem dX4_init_137 : decode cX4_init 137 = .ok (.goto (-22), 3) := by decide +kernel
theorem dX4_init_140 : decode cX4_init 140 = .ok (.return_, 1) := by decide +kernel
theorem h9_X4_init : yX4_init.cls ≠ "java/lang/invoke/MethodHandle" ∧ yX4_init.cls ≠ "java/lang/invoke/VarHandle" ∧ (parseMethodDescriptor yX4_init.desc).map (fun d => d.parameters.length) = some 0 := by decide +kernel
set_option maxHeartbeats 4000000 in
theorem c_X4_past (l : Launch) (D : va_G) (cy : Nat → ClassId) {X : FX} {w : FW} {sz b : Nat} {V : Nat → Value} (hC : fOK X cX4_init 2 RX4 { frames := 4, cells := 511, slots := 2755, locals := 81 } l D cy) (hb1 : b < sz) (hV : V 4 = .ref (sz + 138))
    (kk : gAt X (143 + 46 * 8) (819 + 242 * 8) 2 (WCp w sz 8) ((sz + 143) + 46 * 8) (gE2 b (some (.inr (4, V))) (sz + 138) (some (.inl (arrV (cy 3) 8 (gFl (fun i => sz + 143 + 46 * i) 8))))) [(1, .int 8), (0, .ref b)] [] 140) :
    ∀ n j, j + n = 8 → gAt X (143 + 46 * j) (819 + 242 * j) 2 (WCp w sz j) ((sz + 143) + 46 * j) (gE2 b (some (.inr (4, V))) (sz + 138) (some (.inl (arrV (cy 3) 8 (gFl (fun i => sz + 143 + 46 * i) j))))) [(1, .int (Int32.ofNat j)), (0, .ref b)] [] 115 := by
  intro n
  induction n with
  | zero =>
    intro j hj
    have : j = 8 := by omega
    subst this
    refine g_iload_n hC dX4_init_115 rfl 0 rfl ?_
    refine g_bipush (v := 8) hC dX4_init_116 (by decide) ?_
    refine g_icmp_ge hC 140 dX4_init_118 rfl (fun _ => kk) (fun h => absurd h (by decide))
  | succ n ih =>
    intro j hj
    have h9 := lt8 (j := j) (by omega)
    refine g_iload_n hC dX4_init_115 rfl 0 rfl ?_
    refine g_bipush (v := 8) hC dX4_init_116 (by decide) ?_
    refine g_icmp_ge hC 140 dX4_init_118 rfl (fun h => absurd h h9.2.2.2) (fun _ => ?_)
    refine g_aload_n hC dX4_init_121 rfl 1 rfl ?_
    refine g_getE (v := .ref (sz + 138)) hC 4 4 rfl (by decide) iX4 q_264 (gE2_b _ _ (by omega)) hV dX4_init_122 ?_
    refine g_iload_n hC dX4_init_125 rfl 0 rfl ?_
    refine g_new hC 1 rfl iX1 tyX1 tyX1_ok q_108 q_109 q_74 dfX1 ⟨by show _ ≤ 511; omega, by show _ ≤ 2755; omega⟩ dX4_init_126 (fun hw9 he9 => ?_)
    refine g_dup hC dX4_init_129 rfl ?_
    refine g_ctorN hC (c_X1_init l D cy) rfl q_112 q_74 q_110 q_111 h9_X1_init ⟨Nat.le_of_ble_eq_true rfl, Nat.le_of_ble_eq_true rfl⟩ ⟨by show _ + 45 ≤ 511; omega, by show _ + 232 ≤ 2755; omega⟩ (Nat.le_of_ble_eq_true rfl) (gUp_s _ _ _) (fun q h5 h6 => (WO_off h6 (by omega)).1) dX4_init_130 ?_
    refine g_nm _ _ _ _ rfl (gUp_back _ he9).symm rfl rfl ?_
    refine g_aastE0 hC (gE2_a _ _ _ _) ?_ h9.1 dX4_init_133 ?_
    · exact WO_k _ _ _
    refine g_iinc (L' := [(1, .int (Int32.ofNat (j + 1))), (0, .ref b)]) (v := Int32.ofNat (j + 1)) hC dX4_init_134 0 rfl h9.2.2.1 (by decide) rfl ?_
    refine g_goto hC 115 dX4_init_137 rfl ?_
    refine g_cs (143 + 46 * (j + 1)) (819 + 242 * (j + 1)) (by show _ = _ + 45; omega) (by show _ = _ + 232; omega) ?_
    refine g_nm _ _ _ _ (by omega) ?_ ?_ rfl (ih (j + 1) (by omega))
    · rw [gE2_upa, h9.2.1, ← gFl_s]
    · show WO _ _ _ = WO _ _ _
      congr 1
      omega
set_option maxHeartbeats 4000000 in
set_option maxRecDepth 100000 in
theorem c_X4_init (l : Launch) (D : va_G) (cy : Nat → ClassId) : gSpec l D cy yX4_init cX4_init 2 { frames := 4, cells := 511, slots := 2755, locals := 81 } 4 WC 511 := by
  refine g_begin (by decide +kernel) rfl (Nat.le_of_ble_eq_true rfl) (fun X w sz b hC hNm hEn hb0 hb1 => ?_)
  refine g_nm sz (gE1 b (some (.inr (4, gZ 4)))) w [(0, .ref b)] rfl rfl rfl rfl ?_
  refine g_aload_n hC dX4_init_0 rfl 0 rfl ?_
  refine g_objInit hC q_105 q_106 q_107 ⟨Nat.le_of_ble_eq_true rfl, Nat.le_of_ble_eq_true rfl⟩ (Nat.le_of_ble_eq_true rfl) dX4_init_1 ?_
  refine g_aload_n hC dX4_init_4 rfl 0 rfl ?_
  refine g_new hC 1 rfl iX1 tyX1 tyX1_ok q_108 q_109 q_74 dfX1 ⟨Nat.le_of_ble_eq_true rfl, Nat.le_of_ble_eq_true rfl⟩ dX4_init_5 (fun hw9 he9 => ?_)
  refine g_dup hC dX4_init_8 rfl ?_
  refine g_ctorN hC (c_X1_init l D cy) rfl q_112 q_74 q_110 q_111 h9_X1_init ⟨Nat.le_of_ble_eq_true rfl, Nat.le_of_ble_eq_true rfl⟩ ⟨Nat.le_of_ble_eq_true rfl, Nat.le_of_ble_eq_true rfl⟩ (Nat.le_of_ble_eq_true rfl) (gUp_s _ _ _) (fun q h5 h6 => (WO_off h6 (by omega)).1) dX4_init_9 ?_
  refine g_nm (sz + 46) (gE1 b (some (.inr (4, (gZ 4))))) (WO w sz (sz + 1)) [(0, .ref b)] rfl (gUp_back _ he9).symm rfl rfl ?_
  refine g_putE hC 4 0 rfl (by decide) iX4 tyX4 tyX4_ok nmX4 q_260 rfl  rfl rfl (gE1_b _ _) dX4_init_12 ?_
  refine g_nm (sz + 46) (gE1 b (some (.inr (4, (updV (gZ 4) 0 (.ref sz)))))) (WO w sz (sz + 1)) [(0, .ref b)] rfl (gE1_up _ _ _).symm rfl rfl ?_
  refine g_aload_n hC dX4_init_15 rfl 0 rfl ?_
  refine g_new hC 1 rfl iX1 tyX1 tyX1_ok q_108 q_109 q_74 dfX1 ⟨Nat.le_of_ble_eq_true rfl, Nat.le_of_ble_eq_true rfl⟩ dX4_init_16 (fun hw9 he9 => ?_)
  refine g_dup hC dX4_init_19 rfl ?_
  refine g_ctorN hC (c_X1_init l D cy) rfl q_112 q_74 q_110 q_111 h9_X1_init ⟨Nat.le_of_ble_eq_true rfl, Nat.le_of_ble_eq_true rfl⟩ ⟨Nat.le_of_ble_eq_true rfl, Nat.le_of_ble_eq_true rfl⟩ (Nat.le_of_ble_eq_true rfl) (gUp_s _ _ _) (fun q h5 h6 => (WO_off h6 (by omega)).1) dX4_init_20 ?_
  refine g_nm (sz + 92) (gE1 b (some (.inr (4, (updV (gZ 4) 0 (.ref sz)))))) (WO (WO w sz (sz + 1)) (sz + 46) (sz + 47)) [(0, .ref b)] rfl (gUp_back _ he9).symm rfl rfl ?_
  refine g_putE hC 4 1 rfl (by decide) iX4 tyX4 tyX4_ok nmX4 q_261 rfl  rfl rfl (gE1_b _ _) dX4_init_23 ?_
  refine g_nm (sz + 92) (gE1 b (some (.inr (4, (updV (updV (gZ 4) 0 (.ref sz)) 1 (.ref (sz + 46))))))) (WO (WO w sz (sz + 1)) (sz + 46) (sz + 47)) [(0, .ref b)] rfl (gE1_up _ _ _).symm rfl rfl ?_
  refine g_aload_n hC dX4_init_26 rfl 0 rfl ?_
  refine g_new hC 1 rfl iX1 tyX1 tyX1_ok q_108 q_109 q_74 dfX1 ⟨Nat.le_of_ble_eq_true rfl, Nat.le_of_ble_eq_true rfl⟩ dX4_init_27 (fun hw9 he9 => ?_)
  refine g_dup hC dX4_init_30 rfl ?_
  refine g_ctorN hC (c_X1_init l D cy) rfl q_112 q_74 q_110 q_111 h9_X1_init ⟨Nat.le_of_ble_eq_true rfl, Nat.le_of_ble_eq_true rfl⟩ ⟨Nat.le_of_ble_eq_true rfl, Nat.le_of_ble_eq_true rfl⟩ (Nat.le_of_ble_eq_true rfl) (gUp_s _ _ _) (fun q h5 h6 => (WO_off h6 (by omega)).1) dX4_init_31 ?_
  refine g_nm (sz + 138) (gE1 b (some (.inr (4, (updV (updV (gZ 4) 0 (.ref sz)) 1 (.ref (sz + 46))))))) (WO (WO (WO w sz (sz + 1)) (sz + 46) (sz + 47)) (sz + 92) (sz + 93)) [(0, .ref b)] rfl (gUp_back _ he9).symm rfl rfl ?_
  refine g_putEF hC hNm 4 2 rfl (by decide) iX4 tyX4 tyX4_ok nmX4 q_262 rfl rfl rfl rfl (gE1_b _ _) dX4_init_34 ?_
  refine g_nm (sz + 138) (gE1 b (some (.inr (4, (updV (updV (updV (gZ 4) 0 (.ref sz)) 1 (.ref (sz + 46))) 2 (.ref (sz + 92))))))) (WO (WO (WO w sz (sz + 1)) (sz + 46) (sz + 47)) (sz + 92) (sz + 93)) [(0, .ref b)] rfl (gE1_up _ _ _).symm rfl rfl ?_
  refine g_aload_n hC dX4_init_37 rfl 0 rfl ?_
  refine g_iconst (v := 0) hC dX4_init_38 (by decide) ?_
  refine g_putE hC 4 3 rfl (by decide) iX4 tyX4 tyX4_ok nmX4 q_263 rfl  rfl rfl (gE1_b _ _) dX4_init_39 ?_
  refine g_nm (sz + 138) (gE1 b (some (.inr (4, (updV (updV (updV (updV (gZ 4) 0 (.ref sz)) 1 (.ref (sz + 46))) 2 (.ref (sz + 92))) 3 (.int 0)))))) (WO (WO (WO w sz (sz + 1)) (sz + 46) (sz + 47)) (sz + 92) (sz + 93)) [(0, .ref b)] rfl (gE1_up _ _ _).symm rfl rfl ?_
  refine g_aload_n hC dX4_init_42 rfl 0 rfl ?_
  refine g_bipush (v := 8) hC dX4_init_43 (by decide) ?_
  refine g_anew0 (N' := 8) hC q_108 q_257 (by decide) (by decide) (by decide) ⟨Nat.le_of_ble_eq_true rfl, Nat.le_of_ble_eq_true rfl⟩ dX4_init_45 (fun _ _ => ?_)
  refine g_nm (sz + 139) (gE2 b (some (.inr (4, (updV (updV (updV (updV (gZ 4) 0 (.ref sz)) 1 (.ref (sz + 46))) 2 (.ref (sz + 92))) 3 (.int 0))))) (sz + 138) (some (.inl (arrV (cy 3) 8 (fun _ => .null))))) (WO (WO (WO w sz (sz + 1)) (sz + 46) (sz + 47)) (sz + 92) (sz + 93)) [(0, .ref b)] rfl rfl rfl rfl ?_
  refine g_putEF hC hNm 4 4 rfl (by decide) iX4 tyX4 tyX4_ok nmX4 q_264 rfl rfl rfl rfl (gE2_b _ _ (by omega)) dX4_init_48 ?_
  refine g_nm (sz + 139) (gE2 b (some (.inr (4, (updV (updV (updV (updV (updV (gZ 4) 0 (.ref sz)) 1 (.ref (sz + 46))) 2 (.ref (sz + 92))) 3 (.int 0)) 4 (.ref (sz + 138)))))) (sz + 138) (some (.inl (arrV (cy 3) 8 (fun _ => .null))))) (WO (WO (WO w sz (sz + 1)) (sz + 46) (sz + 47)) (sz + 92) (sz + 93)) [(0, .ref b)] rfl (gE2_upb _ _ _ (by omega)).symm rfl rfl ?_
  refine g_aload_n hC dX4_init_51 rfl 0 rfl ?_
  refine g_iconst (v := 0) hC dX4_init_52 (by decide) ?_
  refine g_putE hC 4 5 rfl (by decide) iX4 tyX4 tyX4_ok nmX4 q_265 rfl  rfl rfl (gE2_b _ _ (by omega)) dX4_init_53 ?_
  refine g_nm (sz + 139) (gE2 b (some (.inr (4, (updV (updV (updV (updV (updV (updV (gZ 4) 0 (.ref sz)) 1 (.ref (sz + 46))) 2 (.ref (sz + 92))) 3 (.int 0)) 4 (.ref (sz + 138))) 5 (.int 0))))) (sz + 138) (some (.inl (arrV (cy 3) 8 (fun _ => .null))))) (WO (WO (WO w sz (sz + 1)) (sz + 46) (sz + 47)) (sz + 92) (sz + 93)) [(0, .ref b)] rfl (gE2_upb _ _ _ (by omega)).symm rfl rfl ?_
  refine g_aload_n hC dX4_init_56 rfl 0 rfl ?_
  refine g_new hC 3 rfl iX3 tyX3 tyX3_ok q_258 q_117 q_75 dfX3 ⟨Nat.le_of_ble_eq_true rfl, Nat.le_of_ble_eq_true rfl⟩ dX4_init_57 (fun hw9 he9 => ?_)
  refine g_dup hC dX4_init_60 rfl ?_
  refine g_ctorN hC (c_X3_init l D cy) rfl q_120 q_75 q_259 q_119 h9_X3_init ⟨Nat.le_of_ble_eq_true rfl, Nat.le_of_ble_eq_true rfl⟩ ⟨Nat.le_of_ble_eq_true rfl, Nat.le_of_ble_eq_true rfl⟩ (Nat.le_of_ble_eq_true rfl) (gUp_s _ _ _) (fun q h5 h6 => (WW_off h6 (by omega)).1) dX4_init_61 ?_
  refine g_nm (sz + 141) (gE2 b (some (.inr (4, (updV (updV (updV (updV (updV (updV (gZ 4) 0 (.ref sz)) 1 (.ref (sz + 46))) 2 (.ref (sz + 92))) 3 (.int 0)) 4 (.ref (sz + 138))) 5 (.int 0))))) (sz + 138) (some (.inl (arrV (cy 3) 8 (fun _ => .null))))) (WW (WO (WO (WO w sz (sz + 1)) (sz + 46) (sz + 47)) (sz + 92) (sz + 93)) (sz + 139) (sz + 140)) [(0, .ref b)] rfl (gUp_back _ he9).symm rfl rfl ?_
  refine g_putEF hC hNm 4 6 rfl (by decide) iX4 tyX4 tyX4_ok nmX4 q_266 rfl rfl rfl rfl (gE2_b _ _ (by omega)) dX4_init_64 ?_
  refine g_nm (sz + 141) (gE2 b (some (.inr (4, (updV (updV (updV (updV (updV (updV (updV (gZ 4) 0 (.ref sz)) 1 (.ref (sz + 46))) 2 (.ref (sz + 92))) 3 (.int 0)) 4 (.ref (sz + 138))) 5 (.int 0)) 6 (.ref (sz + 139)))))) (sz + 138) (some (.inl (arrV (cy 3) 8 (fun _ => .null))))) (WW (WO (WO (WO w sz (sz + 1)) (sz + 46) (sz + 47)) (sz + 92) (sz + 93)) (sz + 139) (sz + 140)) [(0, .ref b)] rfl (gE2_upb _ _ _ (by omega)).symm rfl rfl ?_
  refine g_aload_n hC dX4_init_67 rfl 0 rfl ?_
  refine g_bipush (v := 60) hC dX4_init_68 (by decide) ?_
  refine g_newaC (N' := 60) hC q_132 (by decide) (by decide) (by decide) ⟨Nat.le_of_ble_eq_true rfl, Nat.le_of_ble_eq_true rfl⟩ dX4_init_70 (fun _ => ?_)
  refine g_nm (sz + 142) (gE2 b (some (.inr (4, (updV (updV (updV (updV (updV (updV (updV (gZ 4) 0 (.ref sz)) 1 (.ref (sz + 46))) 2 (.ref (sz + 92))) 3 (.int 0)) 4 (.ref (sz + 138))) 5 (.int 0)) 6 (.ref (sz + 139)))))) (sz + 138) (some (.inl (arrV (cy 3) 8 (fun _ => .null))))) (nA (WW (WO (WO (WO w sz (sz + 1)) (sz + 46) (sz + 47)) (sz + 92) (sz + 93)) (sz + 139) (sz + 140)) (sz + 141) 10 60) [(0, .ref b)] rfl rfl rfl rfl ?_
  refine g_putEF hC hNm 4 7 rfl (by decide) iX4 tyX4 tyX4_ok nmX4 q_267 rfl rfl rfl rfl (gE2_b _ _ (by omega)) dX4_init_72 ?_
  refine g_nm (sz + 142) (gE2 b (some (.inr (4, (updV (updV (updV (updV (updV (updV (updV (updV (gZ 4) 0 (.ref sz)) 1 (.ref (sz + 46))) 2 (.ref (sz + 92))) 3 (.int 0)) 4 (.ref (sz + 138))) 5 (.int 0)) 6 (.ref (sz + 139))) 7 (.ref (sz + 141)))))) (sz + 138) (some (.inl (arrV (cy 3) 8 (fun _ => .null))))) (nA (WW (WO (WO (WO w sz (sz + 1)) (sz + 46) (sz + 47)) (sz + 92) (sz + 93)) (sz + 139) (sz + 140)) (sz + 141) 10 60) [(0, .ref b)] rfl (gE2_upb _ _ _ (by omega)).symm rfl rfl ?_
  refine g_aload_n hC dX4_init_75 rfl 0 rfl ?_
  refine g_iconst (v := 0) hC dX4_init_76 (by decide) ?_
  refine g_putE hC 4 8 rfl (by decide) iX4 tyX4 tyX4_ok nmX4 q_268 rfl  rfl rfl (gE2_b _ _ (by omega)) dX4_init_77 ?_
  refine g_nm (sz + 142) (gE2 b (some (.inr (4, (updV (updV (updV (updV (updV (updV (updV (updV (updV (gZ 4) 0 (.ref sz)) 1 (.ref (sz + 46))) 2 (.ref (sz + 92))) 3 (.int 0)) 4 (.ref (sz + 138))) 5 (.int 0)) 6 (.ref (sz + 139))) 7 (.ref (sz + 141))) 8 (.int 0))))) (sz + 138) (some (.inl (arrV (cy 3) 8 (fun _ => .null))))) (nA (WW (WO (WO (WO w sz (sz + 1)) (sz + 46) (sz + 47)) (sz + 92) (sz + 93)) (sz + 139) (sz + 140)) (sz + 141) 10 60) [(0, .ref b)] rfl (gE2_upb _ _ _ (by omega)).symm rfl rfl ?_
  refine g_aload_n hC dX4_init_80 rfl 0 rfl ?_
  refine g_bipush (v := 17) hC dX4_init_81 (by decide) ?_
  refine g_newaC (N' := 17) hC q_132 (by decide) (by decide) (by decide) ⟨Nat.le_of_ble_eq_true rfl, Nat.le_of_ble_eq_true rfl⟩ dX4_init_83 (fun _ => ?_)
  refine g_nm (sz + 143) (gE2 b (some (.inr (4, (updV (updV (updV (updV (updV (updV (updV (updV (updV (gZ 4) 0 (.ref sz)) 1 (.ref (sz + 46))) 2 (.ref (sz + 92))) 3 (.int 0)) 4 (.ref (sz + 138))) 5 (.int 0)) 6 (.ref (sz + 139))) 7 (.ref (sz + 141))) 8 (.int 0))))) (sz + 138) (some (.inl (arrV (cy 3) 8 (fun _ => .null))))) (nA (nA (WW (WO (WO (WO w sz (sz + 1)) (sz + 46) (sz + 47)) (sz + 92) (sz + 93)) (sz + 139) (sz + 140)) (sz + 141) 10 60) (sz + 142) 10 17) [(0, .ref b)] rfl rfl rfl rfl ?_
  refine g_putEF hC hNm 4 9 rfl (by decide) iX4 tyX4 tyX4_ok nmX4 q_269 rfl rfl rfl rfl (gE2_b _ _ (by omega)) dX4_init_85 ?_
  refine g_nm (sz + 143) (gE2 b (some (.inr (4, (updV (updV (updV (updV (updV (updV (updV (updV (updV (updV (gZ 4) 0 (.ref sz)) 1 (.ref (sz + 46))) 2 (.ref (sz + 92))) 3 (.int 0)) 4 (.ref (sz + 138))) 5 (.int 0)) 6 (.ref (sz + 139))) 7 (.ref (sz + 141))) 8 (.int 0)) 9 (.ref (sz + 142)))))) (sz + 138) (some (.inl (arrV (cy 3) 8 (fun _ => .null))))) (nA (nA (WW (WO (WO (WO w sz (sz + 1)) (sz + 46) (sz + 47)) (sz + 92) (sz + 93)) (sz + 139) (sz + 140)) (sz + 141) 10 60) (sz + 142) 10 17) [(0, .ref b)] rfl (gE2_upb _ _ _ (by omega)).symm rfl rfl ?_
  refine g_aload_n hC dX4_init_88 rfl 0 rfl ?_
  refine g_iconst (v := 0) hC dX4_init_89 (by decide) ?_
  refine g_putE hC 4 10 rfl (by decide) iX4 tyX4 tyX4_ok nmX4 q_270 rfl  rfl rfl (gE2_b _ _ (by omega)) dX4_init_90 ?_
  refine g_nm (sz + 143) (gE2 b (some (.inr (4, (updV (updV (updV (updV (updV (updV (updV (updV (updV (updV (updV (gZ 4) 0 (.ref sz)) 1 (.ref (sz + 46))) 2 (.ref (sz + 92))) 3 (.int 0)) 4 (.ref (sz + 138))) 5 (.int 0)) 6 (.ref (sz + 139))) 7 (.ref (sz + 141))) 8 (.int 0)) 9 (.ref (sz + 142))) 10 (.int 0))))) (sz + 138) (some (.inl (arrV (cy 3) 8 (fun _ => .null))))) (nA (nA (WW (WO (WO (WO w sz (sz + 1)) (sz + 46) (sz + 47)) (sz + 92) (sz + 93)) (sz + 139) (sz + 140)) (sz + 141) 10 60) (sz + 142) 10 17) [(0, .ref b)] rfl (gE2_upb _ _ _ (by omega)).symm rfl rfl ?_
  refine g_aload_n hC dX4_init_93 rfl 0 rfl ?_
  refine g_iconst (v := 0) hC dX4_init_94 (by decide) ?_
  refine g_putE hC 4 11 rfl (by decide) iX4 tyX4 tyX4_ok nmX4 q_271 rfl  rfl rfl (gE2_b _ _ (by omega)) dX4_init_95 ?_
  refine g_nm (sz + 143) (gE2 b (some (.inr (4, (updV (updV (updV (updV (updV (updV (updV (updV (updV (updV (updV (updV (gZ 4) 0 (.ref sz)) 1 (.ref (sz + 46))) 2 (.ref (sz + 92))) 3 (.int 0)) 4 (.ref (sz + 138))) 5 (.int 0)) 6 (.ref (sz + 139))) 7 (.ref (sz + 141))) 8 (.int 0)) 9 (.ref (sz + 142))) 10 (.int 0)) 11 (.int 0))))) (sz + 138) (some (.inl (arrV (cy 3) 8 (fun _ => .null))))) (nA (nA (WW (WO (WO (WO w sz (sz + 1)) (sz + 46) (sz + 47)) (sz + 92) (sz + 93)) (sz + 139) (sz + 140)) (sz + 141) 10 60) (sz + 142) 10 17) [(0, .ref b)] rfl (gE2_upb _ _ _ (by omega)).symm rfl rfl ?_
  refine g_aload_n hC dX4_init_98 rfl 0 rfl ?_
  refine g_iconst (v := 0) hC dX4_init_99 (by decide) ?_
  refine g_putE hC 4 12 rfl (by decide) iX4 tyX4 tyX4_ok nmX4 q_272 rfl  rfl rfl (gE2_b _ _ (by omega)) dX4_init_100 ?_
  refine g_nm (sz + 143) (gE2 b (some (.inr (4, (updV (updV (updV (updV (updV (updV (updV (updV (updV (updV (updV (updV (updV (gZ 4) 0 (.ref sz)) 1 (.ref (sz + 46))) 2 (.ref (sz + 92))) 3 (.int 0)) 4 (.ref (sz + 138))) 5 (.int 0)) 6 (.ref (sz + 139))) 7 (.ref (sz + 141))) 8 (.int 0)) 9 (.ref (sz + 142))) 10 (.int 0)) 11 (.int 0)) 12 (.int 0))))) (sz + 138) (some (.inl (arrV (cy 3) 8 (fun _ => .null))))) (nA (nA (WW (WO (WO (WO w sz (sz + 1)) (sz + 46) (sz + 47)) (sz + 92) (sz + 93)) (sz + 139) (sz + 140)) (sz + 141) 10 60) (sz + 142) 10 17) [(0, .ref b)] rfl (gE2_upb _ _ _ (by omega)).symm rfl rfl ?_
  refine g_aload_n hC dX4_init_103 rfl 0 rfl ?_
  refine g_iconst (v := (-1)) hC dX4_init_104 (by decide) ?_
  refine g_putE hC 4 13 rfl (by decide) iX4 tyX4 tyX4_ok nmX4 q_273 rfl  rfl rfl (gE2_b _ _ (by omega)) dX4_init_105 ?_
  refine g_nm (sz + 143) (gE2 b (some (.inr (4, (updV (updV (updV (updV (updV (updV (updV (updV (updV (updV (updV (updV (updV (updV (gZ 4) 0 (.ref sz)) 1 (.ref (sz + 46))) 2 (.ref (sz + 92))) 3 (.int 0)) 4 (.ref (sz + 138))) 5 (.int 0)) 6 (.ref (sz + 139))) 7 (.ref (sz + 141))) 8 (.int 0)) 9 (.ref (sz + 142))) 10 (.int 0)) 11 (.int 0)) 12 (.int 0)) 13 (.int (-1)))))) (sz + 138) (some (.inl (arrV (cy 3) 8 (fun _ => .null))))) (nA (nA (WW (WO (WO (WO w sz (sz + 1)) (sz + 46) (sz + 47)) (sz + 92) (sz + 93)) (sz + 139) (sz + 140)) (sz + 141) 10 60) (sz + 142) 10 17) [(0, .ref b)] rfl (gE2_upb _ _ _ (by omega)).symm rfl rfl ?_
  refine g_aload_n hC dX4_init_108 rfl 0 rfl ?_
  refine g_iconst (v := (-1)) hC dX4_init_109 (by decide) ?_
  refine g_putE hC 4 14 rfl (by decide) iX4 tyX4 tyX4_ok nmX4 q_274 rfl  rfl rfl (gE2_b _ _ (by omega)) dX4_init_110 ?_
  refine g_nm (sz + 143) (gE2 b (some (.inr (4, (updV (updV (updV (updV (updV (updV (updV (updV (updV (updV (updV (updV (updV (updV (updV (gZ 4) 0 (.ref sz)) 1 (.ref (sz + 46))) 2 (.ref (sz + 92))) 3 (.int 0)) 4 (.ref (sz + 138))) 5 (.int 0)) 6 (.ref (sz + 139))) 7 (.ref (sz + 141))) 8 (.int 0)) 9 (.ref (sz + 142))) 10 (.int 0)) 11 (.int 0)) 12 (.int 0)) 13 (.int (-1))) 14 (.int (-1)))))) (sz + 138) (some (.inl (arrV (cy 3) 8 (fun _ => .null))))) (nA (nA (WW (WO (WO (WO w sz (sz + 1)) (sz + 46) (sz + 47)) (sz + 92) (sz + 93)) (sz + 139) (sz + 140)) (sz + 141) 10 60) (sz + 142) 10 17) [(0, .ref b)] rfl (gE2_upb _ _ _ (by omega)).symm rfl rfl ?_
  refine g_iconst (v := 0) hC dX4_init_113 (by decide) ?_
  refine g_istore_n (L' := [(1, .int 0), (0, .ref b)]) hC dX4_init_114 rfl (by decide) rfl ?_
  refine g_cs (143 + 46 * 0) (819 + 242 * 0) rfl rfl ?_
  refine g_nm (sz + 143 + 46 * 0) (gE2 b (some (.inr (4, (updV (updV (updV (updV (updV (updV (updV (updV (updV (updV (updV (updV (updV (updV (updV (gZ 4) 0 (.ref sz)) 1 (.ref (sz + 46))) 2 (.ref (sz + 92))) 3 (.int 0)) 4 (.ref (sz + 138))) 5 (.int 0)) 6 (.ref (sz + 139))) 7 (.ref (sz + 141))) 8 (.int 0)) 9 (.ref (sz + 142))) 10 (.int 0)) 11 (.int 0)) 12 (.int 0)) 13 (.int (-1))) 14 (.int (-1)))))) (sz + 138) (some (.inl (arrV (cy 3) 8 (gFl (fun i => sz + 143 + 46 * i) 0))))) (WCp w sz 0) [(1, .int (Int32.ofNat 0)), (0, .ref b)] rfl (by rw [gFl_0]) rfl rfl ?_
  refine c_X4_past l D cy hC hb1 rfl ?_ 8 0 rfl
  refine g_takeAr (w' := WCf w sz) hC (j := 0) (by decide) (gE2_a _ _ _ _) (gOff.nF _ _ _ _ _ _) (nF_k _ _ _ _ _ _) (nF_l _ _ _ _ _ _) (fun i hi => ?_) ?_
  · exact (if_pos hi).trans (congrArg _ (nF_R (WCp w sz 8) (sz + 138) 13 8 603 i (fun i => sz + 143 + 46 * i)).symm)
  refine g_nm _ (gE1 b (some (.inr (4, (updV (updV (updV (updV (updV (updV (updV (updV (updV (updV (updV (updV (updV (updV (updV (gZ 4) 0 (.ref sz)) 1 (.ref (sz + 46))) 2 (.ref (sz + 92))) 3 (.int 0)) 4 (.ref (sz + 138))) 5 (.int 0)) 6 (.ref (sz + 139))) 7 (.ref (sz + 141))) 8 (.int 0)) 9 (.ref (sz + 142))) 10 (.int 0)) 11 (.int 0)) 12 (.int 0)) 13 (.int (-1))) 14 (.int (-1))))))) _ _ rfl ?_ rfl rfl ?_
  · exact (gE2_none (by omega)).symm
  refine g_takeOb (w' := WC w b sz) (gE1_b _ _) (by decide) (fun q hq => show gSame _ _ q from (((((((((gSame.sI hq).tr (gSame.sI hq)).tr (gSame.sR hq)).tr (gSame.sR hq)).tr (gSame.sR hq)).tr (gSame.sR hq)).tr (gSame.sR hq)).tr (gSame.sR hq)).tr (gSame.sR hq)).tr (gSame.nA hq)) (if_pos rfl) (fun j hj => ?_) ?_
  · have hj : j < 15 := hj
    rcases (show j = 0 ∨ j = 1 ∨ j = 2 ∨ j = 3 ∨ j = 4 ∨ j = 5 ∨ j = 6 ∨ j = 7 ∨ j = 8 ∨ j = 9 ∨ j = 10 ∨ j = 11 ∨ j = 12 ∨ j = 13 ∨ j = 14 by omega) with rfl | rfl | rfl | rfl | rfl | rfl | rfl | rfl | rfl | rfl | rfl | rfl | rfl | rfl | rfl <;> simp [updV, gZ, fV, fRf, gI, gR, WC, sI, sR, nA]
  · exact g_end hC hEn rfl dX4_init_140
