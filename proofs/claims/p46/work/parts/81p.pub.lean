/-! The public acts, the class alone -/
/-- what stays beside the offices -/
def KR (w w' : FW) (x : Nat) : Prop := (∀ c, ¬ c = 405 → ¬ c = 411 → ¬ c = 412 → gI w' c x 0 = gI w c x 0) ∧ (∀ a, a = x + 142 ∨ a = x + 143 → ∀ i, gI w' 600 a i = gI w 600 a i) ∧ w'.1 = w.1 ∧ w'.2.1 = w.2.1
theorem KP.R {w w' : FW} {x : Nat} (h : KP w w' x) : KR w w' x := ⟨fun c c1 _ _ => h.1 c c1, h.2.1, h.2.2.1, h.2.2.2.1⟩
theorem KR.nm {w w' : FW} {x c : Nat} {v : Int32} (h : KR w w' x) (hc : c = 411 ∨ c = 412) : KR w (sI w' c x 0 v) x :=
  ⟨fun c' c1 c2 c3 => (gI_n (fun z => by omega)).trans (h.1 c' c1 c2 c3), fun a ha i => (gI_n (fun z => by omega)).trans (h.2.1 a ha i), h.2.2.1, h.2.2.2⟩
def PU (w : FW) (x n : Nat) (A H : Nat → Int32) (sv : Int32) (S : Nat → Int32) (es : List Nat) (r : Out) (out : Option ((Int32 ⊕ Nat) × FW)) : Prop :=
  (r.1 = 0 ∧ ∃ w', out = some (.inl r.2.1, w') ∧ CR w' x r.2.2 (if n = 8 then 8 else n + 1) (hPush n A H) sv S ∧ KR w w' x) ∨
  (¬ r.1 = 0 ∧ ∃ e w', out = some (.inr e, w') ∧ e ∈ es ∧ CR w' x A n H sv S ∧ KR w w' x ∧ (0 < r.1 → e = 4 ∧ gI w' 411 x 0 = r.1 ∧ gI w' 412 x 0 = r.2.1) ∧ (r.1 < 0 → e = 1 ∨ e = 2))
theorem pu_of2 {w : FW} {x n : Nat} {A H S : Nat → Int32} {sv : Int32} {es : List Nat} {code k : Int32} {r r' : Out} {G : FW → Option ((Int32 ⊕ Nat) × FW)} {out : Option ((Int32 ⊕ Nat) × FW)} (hr : r'.1 = r.1 ∧ (¬ r.1 = 0 → r' = r)) (hx : PB w x A n A H sv S k r G out) (hs : SH A es code k r) (hG : r.1 = 0 → ∀ w', CR w' x r.2.2 (if n = 8 then 8 else n + 1) (hPush n A H) sv S → w'.1 = w.1 → ∃ w'', G w' = some (.inl r'.2.1, w'') ∧ CR w'' x r'.2.2 (if n = 8 then 8 else n + 1) (hPush n A H) sv S ∧ KP w' w'' x) : PU w x n A H sv S es r' out := by
  rcases hx with ⟨h0, w', e, C', K⟩ | ⟨h0, w1, C1, K1, e⟩ | ⟨h0, w1, C1, K1, e⟩ | ⟨h0, w1, C1, K1, e⟩
  · obtain ⟨w'', e2, C2, K2⟩ := hG h0 w' C' K.2.2.1
    exact Or.inl ⟨hr.1.trans h0, w'', by rw [e]; exact e2, C2, (K.tr K2).R⟩
  · have hne : ¬ r.1 = 0 := fun z => by
      rw [z] at h0
      exact absurd h0 (by decide)
    obtain rfl := hr.2 hne
    refine Or.inr ⟨hne, 4, _, e, (hs.to.1 h0).1, (C1.nm (c := 411) r'.1 (by omega) (by omega) (by omega)).nm (c := 412) r'.2.1 (by omega) (by omega) (by omega), (K1.R.nm (Or.inl rfl)).nm (Or.inr rfl), fun _ => ⟨rfl, ?_, ?_⟩, fun z => ?_⟩
    · rw [gI_n (by omega)]
      exact gI_s _ _ _ _ _
    · exact gI_s _ _ _ _ _
    · rw [Int32.lt_iff_toInt_lt] at z h0
      omega
  · have hne : ¬ r.1 = 0 := fun z => by
      rw [h0] at z
      exact absurd z (by decide)
    obtain rfl := hr.2 hne
    refine Or.inr ⟨hne, _, _, e, (hs.to.2.1 h0).1, C1, K1.R, fun z => ?_, fun _ => ?_⟩
    · rw [h0] at z
      exact absurd z (by decide)
    · split
      · exact Or.inr rfl
      · exact Or.inl rfl
  · have hne : ¬ r.1 = 0 := fun z => by
      rw [h0] at z
      exact absurd z (by decide)
    obtain rfl := hr.2 hne
    refine Or.inr ⟨hne, _, _, e, (hs.to.2.2 h0).1, C1, K1.R, fun z => ?_, fun _ => Or.inl rfl⟩
    rw [h0] at z
    exact absurd z (by decide)
theorem pu_of {w : FW} {x n : Nat} {A H S : Nat → Int32} {sv : Int32} {es : List Nat} {code k : Int32} {r : Out} {G : FW → Option ((Int32 ⊕ Nat) × FW)} {out : Option ((Int32 ⊕ Nat) × FW)} (hx : PB w x A n A H sv S k r G out) (hs : SH A es code k r) (hG : r.1 = 0 → ∀ w', CI w' x → KO w' (gR w' 400 x 0) r.2.2 → w'.1 = w.1 → G w' = some (.inl r.2.1, w')) : PU w x n A H sv S es r out :=
  pu_of2 ⟨rfl, fun _ => rfl⟩ hx hs (fun h0 w' C' e => ⟨w', hG h0 w' C'.1 C'.K e, C', KP.rf _ _⟩)
section PACTS
variable {w : FW} {x n : Nat} {A H S : Nat → Int32} {sv : Int32}
theorem p_letter (C : CR w x A n H sv S) (c : Int32) : PU w x n A H sv S [1, 4] (sLetter c A) (F_X4_letter x c w) := by
  have hA := C.2.2.1
  have g := g_letter hA c
  refine pu_of (code := 2) (k := 2) (r := sLetter c A) (G := fun w' => fg (w.1 (gR w' 400 x 0) = 2) inferInstance (fg (w.1 (gR w' 102 (gR w' 400 x 0) 0) = 4) inferInstance (some ((.inl (gI w' 301 (gR w' 102 (gR w' 400 x 0) 0) 0)), w')))) ?_ (sh_letter c _) ?_
  · unfold F_X4_letter
    rw [fg_t C.1.1]
    exact c_pub C (fun _ _ => rfl) (Or.inr rfl) (fun w1 ci X _ => t_letter X c) g.1 _
  · intro h0 w' c K e
    obtain ⟨q1, q2, q3, q4, q5, q6, q7, q8, q9, q10, q11⟩ := K.s
    show fg (w.1 (gR w' 400 x 0) = 2) _ _ = _
    rw [fg_t (by rw [← e]; exact q1), q9, fg_t (by rw [← e]; exact K.ws.1), K.dlen, v_letter h0]
theorem p_unletter (C : CR w x A n H sv S) : PU w x n A H sv S [4] (sUnletter A) (F_X4_unletter x w) := by
  have hA := C.2.2.1
  have g := g_unletter hA
  refine pu_of (code := 1) (k := 1) (r := sUnletter A) (G := fun w' => fg (w.1 (gR w' 400 x 0) = 2) inferInstance (fg (w.1 (gR w' 102 (gR w' 400 x 0) 0) = 4) inferInstance (some ((.inl (gI w' 301 (gR w' 102 (gR w' 400 x 0) 0) 0)), w')))) ?_ (sh_unletter _) ?_
  · unfold F_X4_unletter
    rw [fg_t C.1.1]
    exact c_pub C (fun _ _ => rfl) (Or.inl rfl) (fun w1 ci X _ => t_unletter X) g.1 _
  · intro h0 w' c K e
    obtain ⟨q1, q2, q3, q4, q5, q6, q7, q8, q9, q10, q11⟩ := K.s
    show fg (w.1 (gR w' 400 x 0) = 2) _ _ = _
    rw [fg_t (by rw [← e]; exact q1), q9, fg_t (by rw [← e]; exact K.ws.1), K.dlen, v_unletter h0]
theorem p_away (C : CR w x A n H sv S) (a : Int32) : PU w x n A H sv S [2] (sAway a A) (F_X4_throwAway x a w) := by
  have hA := C.2.2.1
  have g := g_away hA a
  refine pu_of (code := 2) (k := 1) (r := sAway a A) (G := fun w' => fg (w.1 (gR w' 400 x 0) = 2) inferInstance (some ((.inl (gI w' 101 (gR w' 400 x 0) 0)), w'))) ?_ (sh_away a _) ?_
  · unfold F_X4_throwAway
    rw [fg_t C.1.1]
    exact c_pub C (fun _ _ => rfl) (Or.inl rfl) (fun w1 ci X _ => t_away X a) g.1 _
  · intro h0 w' c K e
    obtain ⟨q1, q2, q3, q4, q5, q6, q7, q8, q9, q10, q11⟩ := K.s
    show fg (w.1 (gR w' 400 x 0) = 2) _ _ = _
    rw [fg_t (by rw [← e]; exact q1), K.g.1, v_away h0]
theorem p_day (C : CR w x A n H sv S) {d : Nat} (hd : A 1 = nI d) (h9 : d < 99900) : PU w x n A H sv S [] (sDay A) (F_X4_day x w) := by
  have hA := C.2.2.1
  have g := g_day hA hd (by omega)
  refine pu_of (code := 1) (k := 1) (r := sDay A) (G := fun w' => fg (w.1 (gR w' 400 x 0) = 2) inferInstance (some ((.inl (gI w' 105 (gR w' 400 x 0) 0)), w'))) ?_ (sh_day _) ?_
  · unfold F_X4_day
    rw [fg_t C.1.1]
    exact c_pub C (fun _ _ => rfl) (Or.inl rfl) (fun w1 ci X _ => t_day X) g.1 _
  · intro h0 w' c K e
    obtain ⟨q1, q2, q3, q4, q5, q6, q7, q8, q9, q10, q11⟩ := K.s
    show fg (w.1 (gR w' 400 x 0) = 2) _ _ = _
    rw [fg_t (by rw [← e]; exact q1), K.g.2.1]
    rfl
theorem p_pier (C : CR w x A n H sv S) (p z : Int32) : PU w x n A H sv S [2, 4] (sPier p (zz z) A) (F_X4_pier x p (zz z) w) := by
  have hA := C.2.2.1
  have g := g_pier hA p (zz z)
  refine pu_of (code := 2) (k := 1) (r := sPier p (zz z) A) (G := fun w' => fg (w.1 (gR w' 400 x 0) = 2) inferInstance ((F_X1_openPiers (gR w' 400 x 0) w').bind (fun r15 => some ((.inl r15), w')))) ?_ (sh_pier p _ _) ?_
  · unfold F_X4_pier
    rw [fg_t C.1.1]
    exact c_pub C (fun _ _ => rfl) (Or.inl rfl) (fun w1 ci X _ => t_pier X p (zz01 z)) g.1 _
  · intro h0 w' c K e
    obtain ⟨q1, q2, q3, q4, q5, q6, q7, q8, q9, q10, q11⟩ := K.s
    show fg (w.1 (gR w' 400 x 0) = 2) _ _ = _
    rw [fg_t (by rw [← e]; exact q1), c_openPiers K, Option.bind_some, v_pier h0]
theorem p_tear (C : CR w x A n H sv S) (a : Int32) : PU w x n A H sv S [2, 4] (sTear a A) (F_X4_tear x a w) := by
  have hA := C.2.2.1
  have g := g_tear hA a
  refine pu_of (code := 2) (k := 1) (r := sTear a A) (G := fun w' => fg (w.1 (gR w' 400 x 0) = 2) inferInstance ((F_X1_tornTickets (gR w' 400 x 0) w').bind (fun r15 => some ((.inl r15), w')))) ?_ (sh_tear a _) ?_
  · unfold F_X4_tear
    rw [fg_t C.1.1]
    exact c_pub C (fun _ _ => rfl) (Or.inl rfl) (fun w1 ci X _ => t_tear X a) g.1 _
  · intro h0 w' c K e
    obtain ⟨q1, q2, q3, q4, q5, q6, q7, q8, q9, q10, q11⟩ := K.s
    show fg (w.1 (gR w' 400 x 0) = 2) _ _ = _
    rw [fg_t (by rw [← e]; exact q1), c_torn K, Option.bind_some, v_tear h0]
theorem p_lose (C : CR w x A n H sv S) (a z : Int32) {h : Nat} (hh : h < 2) (hz : zz (zz z) = nI h) : PU w x n A H sv S [2, 4] (sLost a h 1 A) (F_X4_lose x a (zz z) w) := by
  have hA := C.2.2.1
  have g := g_lost hA a hh (v := 1) (by decide)
  refine pu_of (code := 2) (k := 1) (r := sLost a h 1 A) (G := fun w' => fg (w.1 (gR w' 400 x 0) = 2) inferInstance ((F_X1_lostHalves (gR w' 400 x 0) w').bind (fun r15 => some ((.inl r15), w')))) ?_ (sh_lost a h _ _) ?_
  · unfold F_X4_lose
    rw [fg_t C.1.1]
    exact c_pub C (fun _ _ => rfl) (Or.inl rfl) (fun w1 ci X _ => t_lost X a hh hz (by decide)) g.1 _
  · intro h0 w' c K e
    obtain ⟨q1, q2, q3, q4, q5, q6, q7, q8, q9, q10, q11⟩ := K.s
    show fg (w.1 (gR w' 400 x 0) = 2) _ _ = _
    rw [fg_t (by rw [← e]; exact q1), c_lost K, Option.bind_some, v_lost h0]
theorem p_find (C : CR w x A n H sv S) (a z : Int32) {h : Nat} (hh : h < 2) (hz : zz (zz z) = nI h) : PU w x n A H sv S [2, 4] (sLost a h 0 A) (F_X4_find x a (zz z) w) := by
  have hA := C.2.2.1
  have g := g_lost hA a hh (v := 0) (by decide)
  refine pu_of (code := 2) (k := 1) (r := sLost a h 0 A) (G := fun w' => fg (w.1 (gR w' 400 x 0) = 2) inferInstance ((F_X1_lostHalves (gR w' 400 x 0) w').bind (fun r15 => some ((.inl r15), w')))) ?_ (sh_lost a h _ _) ?_
  · unfold F_X4_find
    rw [fg_t C.1.1]
    exact c_pub C (fun _ _ => rfl) (Or.inl rfl) (fun w1 ci X _ => t_lost X a hh hz (by decide)) g.1 _
  · intro h0 w' c K e
    obtain ⟨q1, q2, q3, q4, q5, q6, q7, q8, q9, q10, q11⟩ := K.s
    show fg (w.1 (gR w' 400 x 0) = 2) _ _ = _
    rw [fg_t (by rw [← e]; exact q1), c_lost K, Option.bind_some, v_lost h0]
theorem p_ride (C : CR w x A n H sv S) (a z : Int32) {h : Nat} (hh : h < 2) (hz : zz (zz z) = nI h) : PU w x n A H sv S [2, 4] (sRide a h A) (F_X4_ride x a (zz z) w) := by
  have hA := C.2.2.1
  have g := g_ride hA a hh
  refine pu_of (code := 2) (k := 1) (r := sRide a h A) (G := fun w' => fg (w.1 (gR w' 400 x 0) = 2) inferInstance (some ((.inl ((gI w' 107 (gR w' 400 x 0) 0) + (gI w' 108 (gR w' 400 x 0) 0))), w'))) ?_ (sh_ride a h _) ?_
  · unfold F_X4_ride
    rw [fg_t C.1.1]
    exact c_pub C (fun _ _ => rfl) (Or.inl rfl) (fun w1 ci X _ => t_ride X a hh hz) g.1 _
  · intro h0 w' c K e
    obtain ⟨q1, q2, q3, q4, q5, q6, q7, q8, q9, q10, q11⟩ := K.s
    show fg (w.1 (gR w' 400 x 0) = 2) _ _ = _
    rw [fg_t (by rw [← e]; exact q1), K.g.2.2.2.1, K.g.2.2.2.2, v_ride h0]
theorem p_punch (C : CR w x A n H sv S) (a z p : Int32) {h : Nat} (hh : h < 2) (hz : zz (zz z) = nI h) : PU w x n A H sv S [2, 4] (sPunch a h p A) (F_X4_punch x a (zz z) p w) := by
  have hA := C.2.2.1
  have g := g_punch hA a hh p
  refine pu_of (code := 2) (k := 1) (r := sPunch a h p A) (G := fun w' => (F_X4_existing x a w').bind (fun r15 => fse r15 (fun v18 => fg (w.1 v18 = 3) inferInstance ((F_X2_half v18 (zz z) w').bind (fun r21 => fg (w.1 r21 = 1) inferInstance ((F_X0_holesWhenWet r21 (gR w' 200 v18 0) 0 w').bind (fun r25 => some ((.inl r25), w')))))) (fun x19 => some (.inr x19, w')))) ?_ (sh_punch a h p _) ?_
  · unfold F_X4_punch
    rw [fg_t C.1.1]
    exact c_pub C (fun _ _ => rfl) (Or.inl rfl) (fun w1 ci X _ => t_punch X a hh hz p) g.1 _
  · intro h0 w' c K e
    obtain ⟨q1, q2, q3, q4, q5, q6, q7, q8, q9, q10, q11⟩ := K.s
    obtain ⟨t, ht, rfl, hv⟩ := v_punch hA h0
    have X : XO w' x (gR w' 400 x 0) (sPunch (nI t) h p A).2.2 := ⟨c.1, rfl, K⟩
    have T := K.T ht
    have e2 : F_X2_half (gR w' 604 (gR w' 400 x 0 + 1) t) (zz z) w' = some (gR w' 604 (gR w' 400 x 0 + 1) t + 3 + h) := c_half T hh hz
    show (F_X4_existing x (nI t) w').bind _ = _
    rw [c_exist X ht, Option.bind_some]
    show fg (w.1 (gR w' 604 (gR w' 400 x 0 + 1) t) = 3) _ _ = _
    rw [fg_t (by rw [← e]; exact T.w.1), e2, Option.bind_some, fg_t (by rw [← e]; exact (T.h hh).1), T.w.2.2.1, c_holesOf (T.h hh), Option.bind_some, hv]
theorem p_wet (C : CR w x A n H sv S) (a z p : Int32) {h : Nat} (hh : h < 2) (hz : zz (zz z) = nI h) : PU w x n A H sv S [2, 1] (sWet a h p A) (F_X4_wet x a (zz z) p w) := by
  have hA := C.2.2.1
  have g := g_wet hA a hh p
  refine pu_of (code := 3) (k := 1) (r := sWet a h p A) (G := fun w' => (F_X4_existing x a w').bind (fun r15 => fse r15 (fun v18 => fg (w.1 v18 = 3) inferInstance ((F_X2_half v18 (zz z) w').bind (fun r21 => fg (w.1 r21 = 1) inferInstance (some ((.inl (gI w' 2 r21 0)), w'))))) (fun x19 => some (.inr x19, w')))) ?_ (sh_wet a h p _) ?_
  · unfold F_X4_wet
    rw [fg_t C.1.1]
    exact c_pub C (fun _ _ => rfl) (Or.inl rfl) (fun w1 ci X _ => t_wet X a hh hz p) g.1 _
  · intro h0 w' c K e
    obtain ⟨q1, q2, q3, q4, q5, q6, q7, q8, q9, q10, q11⟩ := K.s
    obtain ⟨t, ht, rfl, hv⟩ := v_wet hA h0
    have X : XO w' x (gR w' 400 x 0) (sWet (nI t) h p A).2.2 := ⟨c.1, rfl, K⟩
    have T := K.T ht
    have e2 : F_X2_half (gR w' 604 (gR w' 400 x 0 + 1) t) (zz z) w' = some (gR w' 604 (gR w' 400 x 0 + 1) t + 3 + h) := c_half T hh hz
    show (F_X4_existing x (nI t) w').bind _ = _
    rw [c_exist X ht, Option.bind_some]
    show fg (w.1 (gR w' 604 (gR w' 400 x 0 + 1) t) = 3) _ _ = _
    rw [fg_t (by rw [← e]; exact T.w.1), e2, Option.bind_some, fg_t (by rw [← e]; exact (T.h hh).1), (T.h hh).2.1.2.2.1, hv]
theorem p_mood (C : CR w x A n H sv S) (p m : Int32) : PU w x n A H sv S [2, 1, 4] (sMood p m A) (F_X4_mood x p m w) := by
  have hA := C.2.2.1
  have g := g_mood hA p m
  refine pu_of (code := 3) (k := 1) (r := sMood p m A) (G := fun w' => some (.inl (if inn p 0 2 = 0 then -1 else A (7 + p.toNatClampNeg)), w')) ?_ (sh_mood p m _) ?_
  · unfold F_X4_mood
    rw [fg_t C.1.1, fg_t (show w.1 (gR w 400 x 0) = 2 from C.K.s.1)]
    have e0 : F_X1_moodOf (gR w 400 x 0) p w = _ := c_moodOf C.K p
    rw [e0, Option.bind_some]
    exact c_pub C (fun _ _ => rfl) (Or.inl rfl) (fun w1 ci X _ => t_mood X p m) g.1 _
  · intro h0 w' c K e
    obtain ⟨q1, q2, q3, q4, q5, q6, q7, q8, q9, q10, q11⟩ := K.s
    show some (_, w') = _
    rw [v_mood h0]
theorem p_print (C : CR w x A n H sv S) (f t c : Int32) : PU w x n A H sv S [2, 1, 4] (sPrintD (A 10).toNatClampNeg f t c A) (F_X4_print x f t c w) := by
  have hA := C.2.2.1
  have hL : ∀ k, k < (A 10).toNatClampNeg → isLet ((fun k => A (10 + k)) (k + 1)) = 1 := fun k hk => by
    obtain ⟨m, m1, m2, m3, m4⟩ := hA.2.1
    have e : (A 10).toNatClampNeg = m := by rw [m2]; exact nI_clamp (by omega)
    rw [e] at hk
    show isLet (A (10 + (k + 1))) = 1
    rw [show 10 + (k + 1) = 11 + k by omega]
    exact m3 k hk
  have g0 := g_print hA hA.d.2 (G := fun k => A (10 + k)) hA.d.1.symm hL f t c
  have g1 := g_printD hA hA.d.1.symm hA.d.2 f t c
  have hs := sh_print (A 10).toNatClampNeg f t c (fun k => A (10 + k)) A
  obtain ⟨p1, p2, p3⟩ := prD (d := (A 10).toNatClampNeg) (f := f) (t := t) (c := c) (A := A)
  refine pu_of2 (code := 3) (k := 1) (r := sPrint (A 10).toNatClampNeg f t c (fun k => A (10 + k)) A) (r' := sPrintD (A 10).toNatClampNeg f t c A) (G := fun w' => fg (w.1 (gR w' 400 x 0) = 2) inferInstance (fg (w.1 (gR w' 102 (gR w' 400 x 0) 0) = 4) inferInstance (some ((.inl ((gI (sI w' 301 (gR w' 102 (gR w' 400 x 0) 0) 0 0) 101 (gR (sI w' 301 (gR w' 102 (gR w' 400 x 0) 0) 0 0) 400 x 0) 0) - 1)), (sI w' 301 (gR w' 102 (gR w' 400 x 0) 0) 0 0))))) ⟨p1, p2⟩ ?_ hs ?_
  · unfold F_X4_print
    rw [fg_t C.1.1]
    have e : ∀ (r1 : FW) (k : Int32 × FW → Option ((Int32 ⊕ Nat) × FW)), fg (w.1 (gR r1 400 x 0) = 2) inferInstance ((F_X4_tryPrint x (gR r1 102 (gR r1 400 x 0) 0) f t c r1).bind k) = (fg (w.1 (gR r1 400 x 0) = 2) inferInstance (F_X4_tryPrint x (gR r1 102 (gR r1 400 x 0) 0) f t c r1)).bind k := fun r1 k => fg_bind.symm
    simp only [e]
    refine c_pub C (fun _ _ => rfl) (Or.inl rfl) (tryF := fun r1 => fg (w.1 (gR r1 400 x 0) = 2) inferInstance (F_X4_tryPrint x (gR r1 102 (gR r1 400 x 0) 0) f t c r1)) (fun w1 ci X e1 => ?_) g0.1 (fun w' => fg (w.1 (gR w' 400 x 0) = 2) inferInstance (fg (w.1 (gR w' 102 (gR w' 400 x 0) 0) = 4) inferInstance (some ((.inl ((gI (sI w' 301 (gR w' 102 (gR w' 400 x 0) 0) 0 0) 101 (gR (sI w' 301 (gR w' 102 (gR w' 400 x 0) 0) 0 0) 400 x 0) 0) - 1)), (sI w' 301 (gR w' 102 (gR w' 400 x 0) 0) 0 0)))))
    have K := X.2.2
    have s := K.s
    show CA w1 x (OFF w1 x 0) 1 _ (fg (w.1 (gR w1 400 x 0) = 2) _ (F_X4_tryPrint x (gR w1 102 (gR w1 400 x 0) 0) f t c w1))
    rw [fg_t (by rw [← e1]; exact s.1)]
    have e2 : gR w1 102 (gR w1 400 x 0) 0 = OFF w1 x 0 + 2 := s.2.2.2.2.2.2.2.2.1
    rw [e2]
    refine t_print X (by have := ci.off (j := 0) (by omega); omega) K.ws (K.2.1.2.2.2.2.2.2.2.2.1.to (fun k hk => ?_)) hA.d.2 hA.d.1.symm (Or.inl (by omega)) f t c
    exact congrArg A (by omega)
  · intro h0 w' C' e
    have K := C'.K
    have s := K.s
    obtain ⟨f1, s1, r1⟩ := c_noDraft K
    obtain ⟨C2, -, K2, -⟩ := C'.act f1 s1 r1 (zr_w C'.2.2.1).1
    refine ⟨_, ?_, ?_, K2⟩
    · show fg (w.1 (gR w' 400 x 0) = 2) _ _ = _
      have e2 : gR w' 102 (gR w' 400 x 0) 0 = OFF w' x 0 + 2 := s.2.2.2.2.2.2.2.2.1
      rw [fg_t (by rw [← e]; exact s.1), e2, fg_t (by rw [← e]; exact K.ws.1)]
      have e3 : gI (sI w' 301 (OFF w' x 0 + 2) 0 0) 101 (gR (sI w' 301 (OFF w' x 0 + 2) 0 0) 400 x 0) 0 = (sPrint (A 10).toNatClampNeg f t c (fun k => A (10 + k)) A).2.2 0 := by
        rw [gI_sI, if_neg (by omega), gR_sI]
        exact K.g.1
      rw [e3, v_print hA.n.1 h0, p3 h0]
    · rw [p3 h0]
      exact C2
/-- appending what fits -/
theorem p_append (C : CR w x A n H sv S) {L : Nat} {f : Nat → Int32} (h : gI w 408 x 0 = nI L) (hf : ∀ i, i < L → gI w 600 (x + 142) i = f i) (a : Int32) (hb : ∀ k, k < 4 → ¬ apBad a k) (h60 : L + cn a 4 ≤ 60) : F_X4_append x a w = some (.inl (nI (L + cn a 4)), cB w x (L + cn a 4) (apF a L f 4)) := by
  have h4 := cn_le a 4
  have hf9 : (List.range 4).find? (fun k => decide (¬ apC a k = 0 ∧ inn (apC a k) 32 126 = 0)) = none := List.find?_eq_none.mpr (fun k hk z => hb k (List.mem_range.mp hk) (show ¬ apC a k = 0 ∧ inn (apC a k) 32 126 = 0 from of_decide_eq_true z))
  unfold F_X4_append
  rw [c_apCount a, Option.bind_some, hf9]
  show fg (w.1 x = 5) _ (if gI w 408 x 0 + nI (cn a 4) ≤ 60 then _ else _) = _
  rw [fg_t C.1.1, h, nI_add, if_pos (show nI (L + cn a 4) ≤ (60 : Int32) from nI_le (b := 60) h60 (by decide))]
  refine ob (c_apWrite C h hf a hb h60) ?_
  rw [gI_cB, if_pos ⟨rfl, rfl, rfl⟩]
end PACTS
