/-! Lines -/
theorem FW_ext {w w' : FW} (k : w.1 = w'.1) (l : w.2.1 = w'.2.1) (g : ∀ c a i, gI w c a i = gI w' c a i) (r : ∀ c a i, gR w c a i = gR w' c a i) : w = w' := by
  obtain ⟨a, b, c, d⟩ := w
  obtain ⟨a', b', c', d'⟩ := w'
  have h1 : a = a' := k
  have h2 : b = b' := l
  have h3 : c = c' := funext fun p => funext fun q => funext fun i => g p q i
  have h4 : d = d' := funext fun p => funext fun q => funext fun i => r p q i
  rw [h1, h2, h3, h4]
/-- a change of the class's own numbers, its buffer, its line -/
theorem CR.chg {w w' : FW} {x n : Nat} {A H S : Nat → Int32} {sv : Int32} (C : CR w x A n H sv S) (k : w'.1 = w.1) (l : w'.2.1 = w.2.1) (r : ∀ c a i, gR w' c a i = gR w c a i) (g : ∀ c a i, ¬ (a = x ∨ a = x + 142 ∨ a = x + 143) → gI w' c a i = gI w c a i) (g6 : ∀ i, gI w' 600 x i = gI w 600 x i) (g5 : gI w' 405 x 0 = gI w 405 x 0) (g3 : gI w' 403 x 0 = gI w 403 x 0) : CR w' x A n H sv S ∧ ∀ j, OFF w' x j = OFF w x j := by
  obtain ⟨ci, c1, c2, c3, c4, c5, c6, c7, c8⟩ := C
  have hf : Fr w w' (fun a => a = x ∨ a = x + 142 ∨ a = x + 143) := ⟨k, l, fun c a i h => g c a i h, fun c a i _ => r c a i⟩
  have cN := ci.num (w' := w') k l r (fun a i h => by
    by_cases z : a = x
    · subst z
      exact g6 i
    · exact g 600 a i (by omega))
  have o0 := ci.off (j := 0) (by omega)
  refine ⟨⟨cN.1, ?_, c2, g5.trans c3, c4, fun i hi => ?_, g3.trans c6, c7, fun z => ?_⟩, cN.2⟩
  · rw [cN.2]
    exact c1.fr o0.1 c2.n8 hf (fun q q1 q2 => by omega)
  · rw [cN.2]
    have oi := ci.off (j := 3 + i) (by omega)
    exact ⟨(c5 i hi).1.fr oi.1 (c5 i hi).2.n8 hf (fun q q1 q2 => by omega), (c5 i hi).2⟩
  · have o2 := ci.off (j := 2) (by omega)
    exact ⟨(c8 z).1.fr o2.1 (c8 z).2.n8 hf (fun q q1 q2 => by change x + 93 ≤ q at q1; change q < x + 93 + 46 at q2; omega), (c8 z).2⟩
/-- the class's line is f, of L characters -/
def cL (w : FW) (x L : Nat) (f : Nat → Int32) : FW := sI (rW w 600 (x + 143) L f) 410 x 0 (nI L)
theorem cL_0 (w : FW) (x : Nat) (f : Nat → Int32) : cL w x 0 f = sI w 410 x 0 0 := by
  unfold cL
  rw [rW_0]
  rfl
theorem gI_cL (w : FW) (x L : Nat) (f : Nat → Int32) (c a i : Nat) : gI (cL w x L f) c a i = if c = 410 ∧ a = x ∧ i = 0 then nI L else if c = 600 ∧ a = x + 143 ∧ i < L then f i else gI w c a i := rfl
theorem gR_cL (w : FW) (x L : Nat) (f : Nat → Int32) (c a i : Nat) : gR (cL w x L f) c a i = gR w c a i := rfl
theorem cL_s (w : FW) (x L : Nat) (f : Nat → Int32) (v : Int32) : sI (sI (cL w x L f) 600 (x + 143) L v) 410 x 0 (nI (L + 1)) = cL w x (L + 1) (up f L v) := by
  refine FW_ext rfl rfl (fun c a i => ?_) (fun _ _ _ => rfl)
  rw [gI_sI, gI_sI, gI_cL, gI_cL]
  by_cases h1 : c = 410 ∧ a = x ∧ i = 0
  · simp only [if_pos h1]
  · simp only [if_neg h1]
    by_cases h2 : c = 600 ∧ a = x + 143 ∧ i = L
    · simp only [if_pos h2, if_pos (show c = 600 ∧ a = x + 143 ∧ i < L + 1 from ⟨h2.1, h2.2.1, by omega⟩)]
      rw [h2.2.2, up_s]
    · simp only [if_neg h2]
      by_cases h3 : c = 600 ∧ a = x + 143 ∧ i < L
      · simp only [if_pos h3, if_pos (show c = 600 ∧ a = x + 143 ∧ i < L + 1 from ⟨h3.1, h3.2.1, by omega⟩)]
        rw [up_n (by omega)]
      · simp only [if_neg h3, if_neg (show ¬ (c = 600 ∧ a = x + 143 ∧ i < L + 1) from fun z => by omega)]
theorem CR.lnw {w : FW} {x n : Nat} {A H S : Nat → Int32} {sv : Int32} (C : CR w x A n H sv S) (L : Nat) (f : Nat → Int32) : CR (cL w x L f) x A n H sv S :=
  (C.chg (w' := cL w x L f) rfl rfl (fun _ _ _ => rfl) (fun c a i h => by rw [gI_cL, if_neg (by omega), if_neg (by omega)]) (fun i => by rw [gI_cL, if_neg (by omega), if_neg (by omega)]) (by rw [gI_cL, if_neg (by omega), if_neg (by omega)]) (by rw [gI_cL, if_neg (by omega), if_neg (by omega)])).1
section CLN
variable {w : FW} {x n : Nat} {A H S : Nat → Int32} {sv : Int32}
theorem f959 : fch 95 = 95 := fch_n 95 (by omega)
theorem f469 : fch 46 = 46 := fch_n 46 (by omega)
theorem f479 : fch 47 = 47 := fch_n 47 (by omega)
theorem f459 : fch 45 = 45 := fch_n 45 (by omega)
theorem f589 : fch 58 = 58 := fch_n 58 (by omega)
theorem f629 : fch 62 = 62 := fch_n 62 (by omega)
theorem c_write (C : CR w x A n H sv S) {L : Nat} {f : Nat → Int32} {c : Int32} (hL : L < 17) (hc : fch c = c) : F_X4_write x c (cL w x L f) = some (cL w x (L + 1) (up f L c)) := by
  obtain ⟨a1, a2, a3, a4, a5, a6, a7, a8, a9, a10, a11, a12, a13, -⟩ := C.1
  have e1 : gI (cL w x L f) 410 x 0 = nI L := by rw [gI_cL, if_pos ⟨rfl, rfl, rfl⟩]
  have e2 : gI (sI (cL w x L f) 600 (x + 143) L c) 410 x 0 = nI L := by rw [gI_sI, if_neg (by omega), e1]
  have e3 : gR (cL w x L f) 409 x 0 = x + 143 := a11
  have h1 : ¬ (17 : Int32) ≤ nI L := nI_ge (b := 17) hL (by decide)
  have h2 : ¬ (nI L < 0 ∨ (cL w x L f).2.1 (x + 143) ≤ (nI L).toNatClampNeg) := by
    show ¬ (nI L < 0 ∨ w.2.1 (x + 143) ≤ (nI L).toNatClampNeg)
    rw [a13]
    exact nI_in hL (by decide)
  unfold F_X4_write
  rw [fg_t (show (cL w x L f).1 x = 5 from a1), e1, if_neg h1, e3, fg_t (show (cL w x L f).1 (x + 143) = 10 from a12), fg_t h2, fg_t hc, nI_clamp (by omega), e2, nI_1, cL_s]
/-- what is written of a half -/
def hTL (A : Nat → Int32) (t h : Nat) : Nat := if aH A t h 2 = 1 then 1 else if pun A t h = 0 then 1 else aLen A t
def hTF (A : Nat → Int32) (t h : Nat) : Nat → Int32 := if aH A t h 2 = 1 then (fun _ => 95) else if pun A t h = 0 then (fun _ => 46) else fun k => aReads A t h k
theorem hTL_6 {A : Nat → Int32} {t : Nat} (h : Nat) (W : WTk A t) : hTL A t h ≤ 6 := by
  have := W.len.2
  unfold hTL
  split
  · omega
  · split <;> omega
theorem hTF_c {A : Nat → Int32} {t h : Nat} (W : WTk A t) : ∀ i, i < hTL A t h → fch (hTF A t h i) = hTF A t h i := by
  intro i hi
  unfold hTL at hi
  unfold hTF
  split
  · exact f959
  · rename_i c1
    rw [if_neg c1] at hi
    split
    · exact f469
    · rename_i c2
      rw [if_neg c2] at hi
      exact read_fch _ _ (W.l hi)
theorem put1 (L : Nat) (v : Int32) (f : Nat → Int32) : up f L v = hPut L 1 (fun _ => v) f := by
  have := hPut_s L 0 (fun _ => v) f
  rw [hPut_0] at this
  exact this
theorem CR.TL (C : CR w x A n H sv S) {t : Nat} (ht : t < aN A) (L : Nat) (f : Nat → Int32) : TK (cL w x L f) (gR w 604 (OFF w x 0 + 1) t) A t := (C.lnw L f).K.T ht
theorem c_writeHalf (C : CR w x A n H sv S) {t h : Nat} (ht : t < aN A) (hh : h < 2) {z : Int32} (hz : zz z = nI h) {L : Nat} {f : Nat → Int32} (hL : L + hTL A t h ≤ 17) : F_X4_writeHalf x (gR w 604 (OFF w x 0 + 1) t) z (cL w x L f) = some (cL w x (L + hTL A t h) (hPut L (hTL A t h) (hTF A t h) f)) := by
  have a1 := C.1.1
  have T := C.TL ht
  have W := (C.2.2.1.n).2.2 t ht
  have l01 := (W.2.2.2.2.2.2.1 h hh).2.2.1
  unfold F_X4_writeHalf
  rw [fg_t (T L f).w.1, c_half (T L f) hh hz, Option.bind_some, fg_t ((T L f).h hh).1, ((T L f).h hh).2.1.2.2.2.1, ((T L f).h hh).2.1.1]
  by_cases c : aH A t h 2 = 1
  · have e1 : hTL A t h = 1 := if_pos c
    have e2 : hTF A t h = fun _ => 95 := if_pos c
    rw [e1] at hL
    rw [e1, e2, if_neg (by rw [c]; decide), fg_t (show (cL w x L f).1 x = 5 from a1), c_write C (by omega) f959, Option.bind_some, put1]
  · rw [if_pos (l01.resolve_right c)]
    by_cases c2 : pun A t h = 0
    · have e1 : hTL A t h = 1 := (if_neg c).trans (if_pos c2)
      have e2 : hTF A t h = fun _ => 46 := (if_neg c).trans (if_pos c2)
      rw [e1] at hL
      rw [e1, e2, if_pos c2, fg_t (show (cL w x L f).1 x = 5 from a1), c_write C (by omega) f469, Option.bind_some, put1]
    · have e1 : hTL A t h = aLen A t := (if_neg c).trans (if_neg c2)
      have e2 : hTF A t h = fun k => aReads A t h k := (if_neg c).trans (if_neg c2)
      have h6 := W.len.2
      rw [e1] at hL
      rw [e1, e2, if_neg c2]
      refine fLoop_bind (r := cL w x (L + aLen A t) (hPut L (aLen A t) (fun k => aReads A t h k) f)) (fun k => (nI k, cL w x (L + k) (hPut L k (fun k => aReads A t h k) f))) (aLen A t) ?_ (fun k hk => ?_) ?_ rfl
      · rw [hPut_0]
        rfl
      · have Tk := T (L + k) (hPut L k (fun k => aReads A t h k) f)
        have c1 : ¬ nI (aLen A t) ≤ nI k := nI_ge hk (by omega)
        dsimp only
        rw [Tk.w.2.2.1, fg_t (show (cL w x L f).1 (gR w 604 (OFF w x 0 + 1) t + 1) = 4 from Tk.w.2.1), Tk.w.2.2.2, if_neg c1, c_letter (Tk.h hh) hk, Option.bind_some, c_seen (Tk.h hh) hk, Option.bind_some, fg_t (show (cL w x L f).1 x = 5 from a1), c_write C (by omega) (show fch (aReads A t h k) = aReads A t h k from read_fch _ _ (W.l hk)), Option.bind_some, hPut_s L k (fun k => aReads A t h k) f, nI_1]
        rfl
      · have Tk := T (L + aLen A t) (hPut L (aLen A t) (fun k => aReads A t h k) f)
        have c1 : nI (aLen A t) ≤ nI (aLen A t) := nI_le (Nat.le_refl _) (by omega)
        dsimp only
        rw [Tk.w.2.2.1, fg_t (show (cL w x L f).1 (gR w 604 (OFF w x 0 + 1) t + 1) = 4 from Tk.w.2.1), Tk.w.2.2.2, if_pos c1]
theorem dig_c {p : Nat} (hp : p < 10) : fch (48 + nI p) = 48 + nI p := by
  rw [show (48 : Int32) = nI 48 from rfl, nI_add]
  exact fch_n (48 + p) (by omega)
theorem c_digit {p : Nat} (hp : p < 10) (w : FW) : F_X4_digit (nI p) w = some (48 + nI p) := by
  unfold F_X4_digit
  rw [dig_c hp, fg_t (dig_c hp)]
def lnP (A : Nat → Int32) (t : Nat) : Nat := 0 + hTL A t 0 + 1 + hTL A t 1
def ln1 (A : Nat → Int32) (t : Nat) : Nat → Int32 := hPut 0 (hTL A t 0) (hTF A t 0) (fun _ => 0)
def ln2 (A : Nat → Int32) (t : Nat) : Nat → Int32 := up (ln1 A t) (0 + hTL A t 0) (if aT A t 10 = 1 then 47 else 45)
def ln3 (A : Nat → Int32) (t : Nat) : Nat → Int32 := hPut (0 + hTL A t 0 + 1) (hTL A t 1) (hTF A t 1) (ln2 A t)
def lnF (A : Nat → Int32) (t : Nat) : Nat → Int32 := up (up (up (up (ln3 A t) (lnP A t) 58) (lnP A t + 1) (48 + aT A t 7)) (lnP A t + 1 + 1) 62) (lnP A t + 1 + 1 + 1) (48 + aT A t 8)
def lnL (A : Nat → Int32) (t : Nat) : Nat := lnP A t + 1 + 1 + 1 + 1
theorem lnL_17 {A : Nat → Int32} {t : Nat} (W : WTk A t) : lnL A t ≤ 17 := by
  have h0 := hTL_6 0 W
  have h1 := hTL_6 1 W
  unfold lnL lnP
  omega
def FC (f : Nat → Int32) (L : Nat) : Prop := ∀ i, i < L → fch (f i) = f i
theorem FC.up1 {f : Nat → Int32} {L : Nat} {v : Int32} (h : FC f L) (hv : fch v = v) : FC (up f L v) (L + 1) := by
  intro i hi
  by_cases z : i = L
  · rw [z, up_s]
    exact hv
  · rw [up_n z]
    exact h i (by omega)
theorem FC.put {f g : Nat → Int32} {L m : Nat} (h : FC f L) (hg : ∀ i, i < m → fch (g i) = g i) : FC (hPut L m g f) (L + m) := by
  intro i hi
  unfold hPut
  by_cases z : L ≤ i ∧ i < L + m
  · rw [if_pos z]
    exact hg _ (by omega)
  · rw [if_neg z]
    exact h i (by omega)
theorem lnF_c {A : Nat → Int32} {t : Nat} (W : WTk A t) : FC (lnF A t) (lnL A t) := by
  obtain ⟨p, p1, p2⟩ := W.2.1
  obtain ⟨q, q1, q2⟩ := W.2.2.1
  have h0 : FC (fun _ => 0) 0 := fun i hi => by omega
  have h1 : FC (ln1 A t) (0 + hTL A t 0) := h0.put (hTF_c W)
  have h2 : FC (ln2 A t) (0 + hTL A t 0 + 1) := h1.up1 (by split; exact f479; exact f459)
  have h3 : FC (ln3 A t) (lnP A t) := h2.put (hTF_c W)
  exact (((h3.up1 f589).up1 (by rw [p2]; exact dig_c (by omega))).up1 f629).up1 (by rw [q2]; exact dig_c (by omega))
theorem c_line0 (C : CR w x A n H sv S) {a : Int32} (h : inn a 0 (A 0 - 1) = 0) : F_X4_line x a w = some (.inr 2, w) := by
  have h' : inn a 0 (nI (aN A) - 1) = 0 := by rw [← C.2.2.1.n.1]; exact h
  unfold F_X4_line
  rw [fg_t C.1.1, c_existN C.X h', Option.bind_some]
  rfl
theorem c_line1 (C : CR w x A n H sv S) {t : Nat} (ht : t < aN A) : F_X4_line x (nI t) w = some (.inl (nI (lnL A t)), cL w x (lnL A t) (lnF A t)) := by
  have T := C.TL ht
  have W := (C.2.2.1.n).2.2 t ht
  obtain ⟨p, p1, p2⟩ := W.2.1
  obtain ⟨q, q1, q2⟩ := W.2.2.1
  have h17 := lnL_17 W
  have t01 := W.2.2.2.2.1
  have hh0 := hTL_6 0 W
  have hh1 := hTL_6 1 W
  have et : ((if aT A t 10 = 0 then some 45 else some 47 : Option Int32)) = some (if aT A t 10 = 1 then 47 else 45) := by
    rcases t01 with h | h <;> rw [h] <;> rfl
  have cc : fch (if aT A t 10 = 1 then 47 else 45) = (if aT A t 10 = 1 then 47 else 45) := by split; exact f479; exact f459
  have g1 : ∀ L f, gI (cL w x L f) 204 (gR w 604 (OFF w x 0 + 1) t) 0 = aT A t 10 := fun L f => (T L f).2.1.2.2.2.2.1
  have g2 : ∀ L f, gI (cL w x L f) 201 (gR w 604 (OFF w x 0 + 1) t) 0 = nI p := fun L f => (T L f).2.1.2.1.trans p2
  have g3 : ∀ L f, gI (cL w x L f) 202 (gR w 604 (OFF w x 0 + 1) t) 0 = nI q := fun L f => (T L f).2.1.2.2.1.trans q2
  have hP : lnP A t = 0 + hTL A t 0 + 1 + hTL A t 1 := rfl
  have hLL : lnL A t = lnP A t + 1 + 1 + 1 + 1 := rfl
  unfold F_X4_line
  rw [fg_t C.1.1, c_exist C.X ht, Option.bind_some]
  show (F_X4_writeHalf x (gR w 604 (OFF w x 0 + 1) t) 0 (sI w 410 x 0 0)).bind _ = _
  rw [← cL_0 w x (fun _ => 0), c_writeHalf C ht (show 0 < 2 by omega) (show zz 0 = nI 0 from rfl) (by omega), Option.bind_some]
  refine (fg_t (T 0 (fun _ => 0)).w.1).trans ?_
  rw [g1, et, Option.bind_some, c_write C (by omega) cc, Option.bind_some, c_writeHalf C ht (show 1 < 2 by omega) (show zz 1 = nI 1 from rfl) (by omega), Option.bind_some, c_write C (by omega) f589, Option.bind_some, g2, c_digit (by omega), Option.bind_some, c_write C (by omega) (dig_c (by omega)), Option.bind_some, c_write C (by omega) f629, Option.bind_some, g3, c_digit (by omega), Option.bind_some, c_write C (by omega) (dig_c (by omega)), Option.bind_some, gI_cL, if_pos ⟨rfl, rfl, rfl⟩]
  unfold lnL lnF
  rw [p2, q2]
  rfl
def hlF (A : Nat → Int32) (t h k : Nat) : Int32 := if vow (aL A t k) = -1 then aL A t k else 48 + aLeft A t h k (aH A t h 1)
theorem hlF_c {A : Nat → Int32} {t h : Nat} (W : WTk A t) (hh : h < 2) : ∀ i, i < aLen A t → fch (hlF A t h i) = hlF A t h i := by
  intro i hi
  unfold hlF
  split
  · exact isLet_fch (W.l hi)
  · obtain ⟨L, l1, l2⟩ := left_r (k := i) (W.g hh) (W.m hh)
    rw [l2]
    exact dig_c (by omega)
theorem c_holeLine0 (C : CR w x A n H sv S) {a z : Int32} (h : inn a 0 (A 0 - 1) = 0) : F_X4_holeLine x a z w = some (.inr 2, w) := by
  have h' : inn a 0 (nI (aN A) - 1) = 0 := by rw [← C.2.2.1.n.1]; exact h
  unfold F_X4_holeLine
  rw [fg_t C.1.1, c_existN C.X h', Option.bind_some]
  rfl
theorem c_holeLine2 (C : CR w x A n H sv S) {t h : Nat} (ht : t < aN A) (hh : h < 2) {z : Int32} (hz : zz z = nI h) (hp : pun A t h = 0) : F_X4_holeLine x (nI t) z w = some (.inr 5, w) := by
  unfold F_X4_holeLine
  rw [fg_t C.1.1, c_exist C.X ht, Option.bind_some]
  show (F_X4_punchedHalf (gR w 604 (OFF w x 0 + 1) t) z w).bind _ = _
  rw [c_phalf (C.K.T ht) hh hz, if_pos hp, Option.bind_some]
  rfl
theorem c_holeLine1 (C : CR w x A n H sv S) {t h : Nat} (ht : t < aN A) (hh : h < 2) {z : Int32} (hz : zz z = nI h) (hp : ¬ pun A t h = 0) : F_X4_holeLine x (nI t) z w = some (.inl (nI (aLen A t)), cL w x (aLen A t) (hPut 0 (aLen A t) (hlF A t h) (fun _ => 0))) := by
  have T := C.TL ht
  have W := (C.2.2.1.n).2.2 t ht
  have h6 := W.len.2
  unfold F_X4_holeLine
  rw [fg_t C.1.1, c_exist C.X ht, Option.bind_some]
  show (F_X4_punchedHalf (gR w 604 (OFF w x 0 + 1) t) z w).bind _ = _
  rw [c_phalf (C.K.T ht) hh hz, if_neg hp, Option.bind_some]
  refine fLoop_bind (r := cL w x (0 + aLen A t) (hPut 0 (aLen A t) (hlF A t h) (fun _ => 0))) (fun k => (nI k, cL w x (0 + k) (hPut 0 k (hlF A t h) (fun _ => 0)))) (aLen A t) ?_ (fun k hk => ?_) ?_ ?_
  · rw [hPut_0, Nat.add_zero, cL_0]
    rfl
  · have Tk := T (0 + k) (hPut 0 k (hlF A t h) (fun _ => 0))
    have c1 : ¬ nI (aLen A t) ≤ nI k := nI_ge hk (by omega)
    have ee : ((if vow (aL A t k) = -1 then some (aL A t k) else fg (w.1 (gR w 604 (OFF w x 0 + 1) t + 3 + h) = 1) inferInstance ((F_X0_holesFor (gR w 604 (OFF w x 0 + 1) t + 3 + h) (vow (aL A t k)) (gI (cL w x (0 + k) (hPut 0 k (hlF A t h) (fun _ => 0))) 2 (gR w 604 (OFF w x 0 + 1) t + 3 + h) 0) (cL w x (0 + k) (hPut 0 k (hlF A t h) (fun _ => 0)))).bind (fun r41 => (F_X4_digit r41 (cL w x (0 + k) (hPut 0 k (hlF A t h) (fun _ => 0)))).bind (fun r44 => some r44)))) : Option Int32) = some (hlF A t h k) := by
      have eh : hlF A t h k = if vow (aL A t k) = -1 then aL A t k else 48 + aLeft A t h k (aH A t h 1) := rfl
      rw [eh]
      by_cases cv : vow (aL A t k) = -1
      · rw [if_pos cv, if_pos cv]
      · obtain ⟨L, l1, l2⟩ := left_r (k := k) (W.g hh) (W.m hh)
        rw [if_neg cv, if_neg cv, fg_t (show w.1 (gR w 604 (OFF w x 0 + 1) t + 3 + h) = 1 from (Tk.h hh).1), (Tk.h hh).2.1.2.2.1, c_hholes (Tk.h hh) (W.g hh) k, Option.bind_some, l2, c_digit (by omega), Option.bind_some]
    dsimp only
    rw [fg_t (show w.1 (gR w 604 (OFF w x 0 + 1) t) = 3 from Tk.w.1), Tk.w.2.2.1, fg_t (show w.1 (gR w 604 (OFF w x 0 + 1) t + 1) = 4 from Tk.w.2.1), Tk.w.2.2.2, if_neg c1, c_letter (Tk.h hh) hk, Option.bind_some, c_vowel, Option.bind_some, ee, Option.bind_some, c_write C (by omega) (hlF_c W hh k hk), Option.bind_some, hPut_s 0 k (hlF A t h) (fun _ => 0), nI_1]
    rfl
  · have Tk := T (0 + aLen A t) (hPut 0 (aLen A t) (hlF A t h) (fun _ => 0))
    have c1 : nI (aLen A t) ≤ nI (aLen A t) := nI_le (Nat.le_refl _) (by omega)
    dsimp only
    rw [fg_t (show w.1 (gR w 604 (OFF w x 0 + 1) t) = 3 from Tk.w.1), Tk.w.2.2.1, fg_t (show w.1 (gR w 604 (OFF w x 0 + 1) t + 1) = 4 from Tk.w.2.1), Tk.w.2.2.2, if_pos c1]
  · rw [gI_cL, if_pos ⟨rfl, rfl, rfl⟩, Nat.zero_add]
end CLN
/-! the reference's lines -/
def mL (w : FW) (M : Nat) (fl : Nat → Int32) (ar : Nat → Nat → Int32) (L : Nat) (f : Nat → Int32) : FW := mW w M (up fl 512 (nI L)) (up ar 7 (cp L f (ar 7)))
theorem cp_u {L : Nat} {f g : Nat → Int32} {v : Int32} : up (cp L f g) L v = cp (L + 1) (up f L v) g := by
  funext i
  unfold cp
  by_cases h : i = L
  · rw [h, up_s, if_pos (by omega), up_s]
  · rw [up_n h]
    by_cases h2 : i < L
    · rw [if_pos h2, if_pos (by omega), up_n h]
    · rw [if_neg h2, if_neg (by omega)]
section MLN
variable {w : FW} {M : Nat} {fl : Nat → Int32} {ar : Nat → Nat → Int32}
theorem mL_0 (f : Nat → Int32) : mW w M (up fl 512 0) ar = mL w M fl ar 0 f := by
  unfold mL
  rw [cp_0, up_self]
  rfl
theorem mL_1 (L : Nat) (f : Nat → Int32) : (up ar 7 (cp L f (ar 7))) 1 = ar 1 := up_n (by decide)
end MLN

section KLINE
variable {b x : Nat} {w : FW}
/-- a query's end: nothing but what is thrown is set -/
theorem JJ.q {n : Nat} {fl' : Nat → Int32} (hB : MB w (x + 512)) (J : JP b w x (flW w (x + 512)) (arW w (x + 512)) n) (hf : ∀ c, ¬ c = 500 → ¬ c = 517 → fl' c = flW w (x + 512) c) : JJ (b + 60) (mW w (x + 512) fl' (arW w (x + 512))) x := by
  obtain ⟨C, h5, hN, hD⟩ := id J
  refine (JJ.fin (b' := b + 60) (w' := w) (n' := n) (fl' := fl') (ar' := arW w (x + 512)) hB rfl rfl J (KP.rf _ _) ?_ ?_ (fun c hc => hf c (by omega) (by omega)) rfl rfl ⟨hD.1.up (by omega), fun i hi => (hD.2.1 i hi).up (by omega), fun z => ?_⟩).2.2
  · rw [hf 506 (by omega) (by omega)]
    exact C
  · rw [hf 505 (by omega) (by omega)]
    exact h5
  · rw [hf 506 (by omega) (by omega)] at z
    exact (hD.2.2 z).up (by omega)
theorem JJ.line {n L : Nat} {f : Nat → Int32} (hB : MB w (x + 512)) (J : JP b w x (flW w (x + 512)) (arW w (x + 512)) n) (hL : L ≤ 17) (hc : FC f L) : MB (cL w x L f) (x + 512) ∧ cL w x L f = mW (cL w x L f) (x + 512) (flW w (x + 512)) (arW w (x + 512)) ∧ JJ (b + 60) (mL (cL w x L f) (x + 512) (up (flW w (x + 512)) 500 0) (arW w (x + 512)) L f) x := by
  obtain ⟨C, h5, hN, hD⟩ := id J
  have m1 : MB (cL w x L f) (x + 512) := hB
  have m2 : flW (cL w x L f) (x + 512) = flW w (x + 512) := by
    funext c
    show gI (cL w x L f) c (x + 512) 0 = gI w c (x + 512) 0
    rw [gI_cL, if_neg (by omega), if_neg (by omega)]
  have m3 : arW (cL w x L f) (x + 512) = arW w (x + 512) := by
    funext k i
    show gI (cL w x L f) 601 (x + 512 + k) i = gI w 601 (x + 512 + k) i
    rw [gI_cL, if_neg (by omega), if_neg (by omega)]
  refine ⟨m1, ?_, JJ.mk m1 (n := n) ⟨?_, ?_, ?_, ?_⟩⟩
  · rw [← m2, ← m3]
    exact (mW_me _ _).symm
  · rw [up_n (by omega), up_n (by omega), up_n (by omega), up_n (by omega), up_n (by omega)]
    exact C.lnw L f
  · rw [up_n (by omega), up_n (by omega)]
    exact h5
  · obtain ⟨n1, n2, n3, n4, ⟨K, b1, b2, b3, b4⟩, -⟩ := hN
    have g : ∀ c, ¬ c = 410 → ¬ c = 600 → gI (cL w x L f) c x 0 = gI w c x 0 := fun c h1 h2 => by
      rw [gI_cL, if_neg (by omega), if_neg (by omega)]
    have fx : ∀ c, ¬ c = 500 → ¬ c = 512 → up (up (flW w (x + 512)) 500 0) 512 (nI L) c = flW w (x + 512) c := fun c h1 h2 => by
      rw [up_n (by omega), up_n (by omega)]
    refine ⟨by rw [g 411 (by omega) (by omega), fx 515 (by omega) (by omega)]; exact n1, by rw [g 412 (by omega) (by omega), fx 516 (by omega) (by omega)]; exact n2, by rw [g 413 (by omega) (by omega), fx 513 (by omega) (by omega)]; exact n3, by rw [g 414 (by omega) (by omega), fx 514 (by omega) (by omega)]; exact n4, ⟨K, b1, by rw [g 408 (by omega) (by omega)]; exact b2, by rw [fx 511 (by omega) (by omega)]; exact b3, fun i hi => ?_⟩, ⟨L, hL, ?_, up_s _ _ _, fun i hi => ?_⟩⟩
    · rw [gI_cL, if_neg (by omega), if_neg (by omega), up_n (by omega)]
      exact b4 i hi
    · rw [gI_cL, if_pos ⟨rfl, rfl, rfl⟩]
    · rw [gI_cL, if_neg (by omega), if_pos ⟨rfl, rfl, hi⟩, up_s, cp_l hi]
      exact ⟨rfl, hc i hi⟩
  · refine ⟨?_, fun i hi => ?_, fun z => ?_⟩
    · rw [up_n (by omega)]
      exact hD.1.up (by omega)
    · rw [up_n (by omega)]
      exact (hD.2.1 i hi).up (by omega)
    · rw [up_n (by omega), up_n (by omega)] at z
      rw [up_n (by omega)]
      exact (hD.2.2 z).up (by omega)
end KLINE
